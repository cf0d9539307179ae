/-! What ended runs give: printed by a program (wip/fun/sg.py). -/
/-- ColdShod$Journey.read(LColdShod$Shelf;I)V, from 0 on -/
theorem sg_48_0 {F_s : Nat} {s_s : Nat} {x2_s : Int32} {h_s : zH} {K_s : zH → Prop} (hs : s_s < 6) (hk : hKn h_s) (t_s : wF F_s 48 (7, [some (.ref 50), some (.ref (76 + 2 * s_s)), some (.int x2_s), some (.int 0), none, none], [], (h_s.1, zup h_s.2.1 50 1 0, h_s.2.2.1, h_s.2.2.2)) (gV K_s)) : wF (F_s + 1) 48 (0, [some (.ref 50), some (.ref (76 + 2 * s_s)), some (.int x2_s), none, none, none], [], h_s) (gV K_s) := by
  refine w_0 (pc := 0) (e_s := (3, 1, 0, 0, 0, .null, [])) (y_s := (1, [some (.ref _), some (.ref _), some (.int _), none, none, none], [.ref _], _)) rfl (u_ rfl) ?_
  refine w_t (pc := 1) (e_s := (0, 1, 0, 0, 0, .int 0, [])) (y_s := (2, [some (.ref _), some (.ref _), some (.int _), none, none, none], [.int _, .ref _], _)) rfl (u_ rfl) ?_
  refine w21 (pc := 2) (len_s := 3) rfl ?_
  refine w_t (pc := 5) (e_s := (0, 1, 0, 0, 0, .int 0, [])) (y_s := (6, [some (.ref _), some (.ref _), some (.int _), none, none, none], [.int _], _)) rfl (u_ rfl) ?_
  refine w_t (pc := 6) (e_s := (4, 1, 3, 0, 0, .null, [])) (y_s := (7, [some (.ref _), some (.ref _), some (.int _), some (.int _), none, none], [], _)) rfl (u_ rfl) ?_
  exact t_s
/-- ColdShod$Journey.read(LColdShod$Shelf;I)V, from 7 on -/
theorem sg_48_7 {F_s : Nat} {s_s : Nat} {x2_s x3 : Int32} {l4 l5 : Option Value} {h_s : zH} {K_s : zH → Prop} (hs : s_s < 6) (hk : hKn h_s) (t_s : (x3.toInt < 20 → ((x3.toInt < (h_s.2.1 (76 + 2 * s_s) 3).toInt → (zix x3 < 60 → ((h_s.2.2.1 (76 + 2 * s_s + 1) (zix x3)).toInt < 0 → K_s h_s) ∧ (¬ (h_s.2.2.1 (76 + 2 * s_s + 1) (zix x3)).toInt < 0 → (((h_s.2.2.1 (76 + 2 * s_s + 1) (zix x3)).toInt < x2_s.toInt → (zix x3 < 20 → wF F_s 48 (7, [some (.ref 50), some (.ref (76 + 2 * s_s)), some (.int x2_s), some (.int (x3 + 1)), some (.long (h_s.2.2.1 (76 + 2 * s_s + 1) (zix x3))), none], [], (h_s.1, zup (zup h_s.2.1 51 (zix x3) ((h_s.2.2.1 (76 + 2 * s_s + 1) (zix x3)).toInt32)) 50 1 (x3 + 1), h_s.2.2.1, h_s.2.2.2)) (gV K_s))) ∧ (¬ (h_s.2.2.1 (76 + 2 * s_s + 1) (zix x3)).toInt < x2_s.toInt → K_s h_s))))) ∧ (¬ x3.toInt < (h_s.2.1 (76 + 2 * s_s) 3).toInt → K_s h_s))) ∧ (¬ x3.toInt < 20 → K_s h_s)) : wF (F_s + 1) 48 (7, [some (.ref 50), some (.ref (76 + 2 * s_s)), some (.int x2_s), some (.int x3), l4, l5], [], h_s) (gV K_s) := by
  refine w_0 (pc := 7) (e_s := (1, 1, 3, 0, 0, .null, [])) (y_s := (8, [some (.ref _), some (.ref _), some (.int _), some (.int _), _, _], [.int _], _)) rfl (u_ rfl) ?_
  refine w_t (pc := 8) (e_s := (3, 1, 0, 0, 0, .null, [])) (y_s := (9, [some (.ref _), some (.ref _), some (.int _), some (.int _), _, _], [.ref _, .int _], _)) rfl (u_ rfl) ?_
  refine w20r (pc := 9) (len_s := 3) (q_s := 51) rfl (krq hk rfl) ?_
  refine w28 (pc := 12) (len_s := 1) rfl (hk.1 51 0 20 rfl rfl) ?_
  refine wi3 (pc := 13) (len_s := 3) (Y := 20) rfl rfl (by decide) (fun c1_s => ?_) (fun c1_s => ?_)
  · replace t_s := t_s.1 c1_s
    refine w_t (pc := 16) (e_s := (1, 1, 3, 0, 0, .null, [])) (y_s := (17, [some (.ref _), some (.ref _), some (.int _), some (.int _), _, _], [.int _], _)) rfl (u_ rfl) ?_
    refine w_t (pc := 17) (e_s := (3, 1, 1, 0, 0, .null, [])) (y_s := (18, [some (.ref _), some (.ref _), some (.int _), some (.int _), _, _], [.ref _, .int _], _)) rfl (u_ rfl) ?_
    refine w20 (pc := 18) (len_s := 3) rfl ?_
    refine wi3 (pc := 21) (len_s := 3) rfl rfl rfl (fun c2_s => ?_) (fun c2_s => ?_)
    · replace t_s := t_s.1 c2_s
      refine w_t (pc := 24) (e_s := (3, 1, 1, 0, 0, .null, [])) (y_s := (25, [some (.ref _), some (.ref _), some (.int _), some (.int _), _, _], [.ref _], _)) rfl (u_ rfl) ?_
      refine w20r (pc := 25) (len_s := 3) (q_s := 76 + 2 * s_s + 1) rfl (kshc hk hs) ?_
      refine w_t (pc := 28) (e_s := (1, 1, 3, 0, 0, .null, [])) (y_s := (29, [some (.ref _), some (.ref _), some (.int _), some (.int _), _, _], [.int _, .ref _], _)) rfl (u_ rfl) ?_
      refine w23 (pc := 29) (len_s := 1) rfl (kshz hk hs) (fun c3_s => ?_)
      replace t_s := t_s c3_s
      refine w_t (pc := 30) (e_s := (5, 2, 4, 0, 0, .null, [])) (y_s := (32, [some (.ref _), some (.ref _), some (.int _), some (.int _), some (.long _), none], [], _)) rfl (u_ rfl) ?_
      refine w_t (pc := 32) (e_s := (2, 2, 4, 0, 0, .null, [])) (y_s := (34, [some (.ref _), some (.ref _), some (.int _), some (.int _), some (.long _), none], [.long _], _)) rfl (u_ rfl) ?_
      refine w_t (pc := 34) (e_s := (0, 1, 0, 0, 0, .long 0, [])) (y_s := (35, [some (.ref _), some (.ref _), some (.int _), some (.int _), some (.long _), none], [.long _, .long _], _)) rfl (u_ rfl) ?_
      refine w_t (pc := 35) (e_s := (14, 1, 0, 0, 0, .null, [])) (y_s := (36, [some (.ref _), some (.ref _), some (.int _), some (.int _), some (.long _), none], [.int (lg_cmp _ _)], _)) rfl (u_ rfl) ?_
      refine wl2 (pc := 36) (len_s := 3) (Y := 0) rfl rfl (by decide) (fun c4_s => ?_) (fun c4_s => ?_)
      · replace t_s := t_s.1 c4_s
        exact wrV (pc := 47) (len_s := 1) rfl hk t_s
      · replace t_s := t_s.2 c4_s
        refine w_t (pc := 39) (e_s := (2, 2, 4, 0, 0, .null, [])) (y_s := (41, [some (.ref _), some (.ref _), some (.int _), some (.int _), some (.long _), none], [.long _], _)) rfl (u_ rfl) ?_
        refine w_t (pc := 41) (e_s := (1, 1, 2, 0, 0, .null, [])) (y_s := (42, [some (.ref _), some (.ref _), some (.int _), some (.int _), some (.long _), none], [.int _, .long _], _)) rfl (u_ rfl) ?_
        refine w_t (pc := 42) (e_s := (10, 1, 0, 0, 0, .null, [])) (y_s := (43, [some (.ref _), some (.ref _), some (.int _), some (.int _), some (.long _), none], [.long (Int32.toInt64 _), .long _], _)) rfl (u_ rfl) ?_
        refine w_t (pc := 43) (e_s := (14, 1, 0, 0, 0, .null, [])) (y_s := (44, [some (.ref _), some (.ref _), some (.int _), some (.int _), some (.long _), none], [.int (lg_cmp _ _)], _)) rfl (u_ rfl) ?_
        refine wl2 (pc := 44) (len_s := 3) rfl rfl (Int32.toInt_toInt64 _) (fun c5_s => ?_) (fun c5_s => ?_)
        · replace t_s := t_s.1 c5_s
          refine w_t (pc := 48) (e_s := (3, 1, 0, 0, 0, .null, [])) (y_s := (49, [some (.ref _), some (.ref _), some (.int _), some (.int _), some (.long _), none], [.ref _], _)) rfl (u_ rfl) ?_
          refine w20r (pc := 49) (len_s := 3) (q_s := 51) rfl (krq hk rfl) ?_
          refine w_t (pc := 52) (e_s := (1, 1, 3, 0, 0, .null, [])) (y_s := (53, [some (.ref _), some (.ref _), some (.int _), some (.int _), some (.long _), none], [.int _, .ref _], _)) rfl (u_ rfl) ?_
          refine w_t (pc := 53) (e_s := (2, 2, 4, 0, 0, .null, [])) (y_s := (55, [some (.ref _), some (.ref _), some (.int _), some (.int _), some (.long _), none], [.long _, .int _, .ref _], _)) rfl (u_ rfl) ?_
          refine w_t (pc := 55) (e_s := (11, 1, 0, 0, 0, .null, [])) (y_s := (56, [some (.ref _), some (.ref _), some (.int _), some (.int _), some (.long _), none], [.int (Int64.toInt32 _), .int _, .ref _], _)) rfl (u_ rfl) ?_
          refine w25 (pc := 56) (len_s := 1) rfl (hk.1 51 0 20 rfl rfl) (fun c6_s => ?_)
          replace t_s := t_s c6_s
          refine w_t (pc := 57) (e_s := (3, 1, 0, 0, 0, .null, [])) (y_s := (58, [some (.ref _), some (.ref _), some (.int _), some (.int _), some (.long _), none], [.ref _], _)) rfl (u_ rfl) ?_
          refine w_t (pc := 58) (e_s := (1, 1, 3, 0, 0, .null, [])) (y_s := (59, [some (.ref _), some (.ref _), some (.int _), some (.int _), some (.long _), none], [.int _, .ref _], _)) rfl (u_ rfl) ?_
          refine w_t (pc := 59) (e_s := (0, 1, 0, 0, 0, .int 1, [])) (y_s := (60, [some (.ref _), some (.ref _), some (.int _), some (.int _), some (.long _), none], [.int _, .int _, .ref _], _)) rfl (u_ rfl) ?_
          refine w_t (pc := 60) (e_s := (7, 1, 0, 0, 0, .null, [])) (y_s := (61, [some (.ref _), some (.ref _), some (.int _), some (.int _), some (.long _), none], [.int (_ + _), .ref _], _)) rfl (u_ rfl) ?_
          refine w21 (pc := 61) (len_s := 3) rfl ?_
          refine w_t (pc := 64) (e_s := (19, 3, 3, 0, 0, .int 1, [])) (y_s := (67, [some (.ref _), some (.ref _), some (.int _), some (.int _), some (.long _), none], [], _)) rfl (u_ rfl) ?_
          refine w_t (pc := 67) (e_s := (17, 3, 7, 0, 0, .null, [])) (y_s := (7, [some (.ref _), some (.ref _), some (.int _), some (.int _), some (.long _), none], [], _)) rfl (u_ rfl) ?_
          exact t_s
        · replace t_s := t_s.2 c5_s
          exact wrV (pc := 47) (len_s := 1) rfl hk t_s
    · replace t_s := t_s.2 c2_s
      exact wrV (pc := 70) (len_s := 1) rfl hk t_s
  · replace t_s := t_s.2 c1_s
    exact wrV (pc := 70) (len_s := 1) rfl hk t_s
/-- ColdShod$Journey.goesStage(ILColdShod$Idea;LColdShod$Country;)Z, from 0 on -/
theorem sg_50_0 {F_s : Nat} {d_s : Nat} {x1_s : Int32} {h_s : zH} {K_s : Int32 → zH → Prop} (hk : hKn h_s) (t_s : (zix x1_s < 20 → (zix (h_s.2.1 51 (zix x1_s)) < 12 → wF F_s 24 (0, [some (.ref 7), some (.ref d_s), some (.ref (28 + (zix (h_s.2.1 51 (zix x1_s))))), none, none], [], h_s) (gI (fun v3 h3 => hKn h3 → (v3.toInt < ((zup h3.2.1 50 2 ((h3.2.1 50 2) + v3)) (28 + (zix (h_s.2.1 51 (zix x1_s)))) 2).toInt → K_s 0 (h3.1, zup h3.2.1 50 2 ((h3.2.1 50 2) + v3), h3.2.2.1, h3.2.2.2)) ∧ (¬ v3.toInt < ((zup h3.2.1 50 2 ((h3.2.1 50 2) + v3)) (28 + (zix (h_s.2.1 51 (zix x1_s)))) 2).toInt → K_s 1 (h3.1, zup (zup h3.2.1 50 2 ((h3.2.1 50 2) + v3)) 50 3 ((h3.2.1 50 3) + 1), h3.2.2.1, h3.2.2.2))))))) : wF (F_s + 1) 50 (0, [some (.ref 50), some (.int x1_s), some (.ref d_s), some (.ref 7), none, none], [], h_s) (gI K_s) := by
  refine w_0 (pc := 0) (e_s := (3, 1, 3, 0, 0, .null, [])) (y_s := (1, [some (.ref _), some (.int _), some (.ref _), some (.ref _), none, none], [.ref _], _)) rfl (u_ rfl) ?_
  refine w20r (pc := 1) (len_s := 3) (q_s := 11) rfl (krq hk rfl) ?_
  refine w_t (pc := 4) (e_s := (3, 1, 0, 0, 0, .null, [])) (y_s := (5, [some (.ref _), some (.int _), some (.ref _), some (.ref _), none, none], [.ref _, .ref _], _)) rfl (u_ rfl) ?_
  refine w20r (pc := 5) (len_s := 3) (q_s := 51) rfl (krq hk rfl) ?_
  refine w_t (pc := 8) (e_s := (1, 1, 1, 0, 0, .null, [])) (y_s := (9, [some (.ref _), some (.int _), some (.ref _), some (.ref _), none, none], [.int _, .ref _, .ref _], _)) rfl (u_ rfl) ?_
  refine w22 (pc := 9) (len_s := 1) rfl (hk.1 51 0 20 rfl rfl) (fun c1_s => ?_)
  replace t_s := t_s c1_s
  refine w24 (g_s := fun j_ => 28 + j_) (pc := 10) (len_s := 1) hk rfl (hk.1 11 3 12 rfl rfl) kg11 (fun c2_s => ?_)
  replace t_s := t_s c2_s
  refine w_t (pc := 11) (e_s := (6, 2, 4, 0, 0, .null, [])) (y_s := (13, [some (.ref _), some (.int _), some (.ref _), some (.ref _), some (.ref _), none], [], _)) rfl (u_ rfl) ?_
  refine w_t (pc := 13) (e_s := (3, 1, 3, 0, 0, .null, [])) (y_s := (14, [some (.ref _), some (.int _), some (.ref _), some (.ref _), some (.ref _), none], [.ref _], _)) rfl (u_ rfl) ?_
  refine w_t (pc := 14) (e_s := (3, 1, 2, 0, 0, .null, [])) (y_s := (15, [some (.ref _), some (.int _), some (.ref _), some (.ref _), some (.ref _), none], [.ref _, .ref _], _)) rfl (u_ rfl) ?_
  refine w_t (pc := 15) (e_s := (3, 2, 4, 0, 0, .null, [])) (y_s := (17, [some (.ref _), some (.int _), some (.ref _), some (.ref _), some (.ref _), none], [.ref _, .ref _, .ref _], _)) rfl (u_ rfl) ?_
  refine wcI (pc := 17) (len_s := 3) rfl rfl (l := [some (.ref _), some (.ref _), some (.ref _), none, none]) rfl (wmI t_s (fun v3 h3 hk t_s => ?_))
  replace t_s := t_s hk
  refine w_t (pc := 20) (e_s := (4, 2, 5, 0, 0, .null, [])) (y_s := (22, [some (.ref _), some (.int _), some (.ref _), some (.ref _), some (.ref _), some (.int _)], [], _)) rfl (u_ rfl) ?_
  refine w_t (pc := 22) (e_s := (3, 1, 0, 0, 0, .null, [])) (y_s := (23, [some (.ref _), some (.int _), some (.ref _), some (.ref _), some (.ref _), some (.int _)], [.ref _], _)) rfl (u_ rfl) ?_
  refine w_t (pc := 23) (e_s := (39, 1, 0, 0, 0, .null, [])) (y_s := (24, [some (.ref _), some (.int _), some (.ref _), some (.ref _), some (.ref _), some (.int _)], [.ref _, .ref _], _)) rfl (u_ rfl) ?_
  refine w20 (pc := 24) (len_s := 3) rfl ?_
  refine w_t (pc := 27) (e_s := (1, 2, 5, 0, 0, .null, [])) (y_s := (29, [some (.ref _), some (.int _), some (.ref _), some (.ref _), some (.ref _), some (.int _)], [.int _, .int _, .ref _], _)) rfl (u_ rfl) ?_
  refine w_t (pc := 29) (e_s := (7, 1, 0, 0, 0, .null, [])) (y_s := (30, [some (.ref _), some (.int _), some (.ref _), some (.ref _), some (.ref _), some (.int _)], [.int (_ + _), .ref _], _)) rfl (u_ rfl) ?_
  refine w21 (pc := 30) (len_s := 3) rfl ?_
  refine w_t (pc := 33) (e_s := (1, 2, 5, 0, 0, .null, [])) (y_s := (35, [some (.ref _), some (.int _), some (.ref _), some (.ref _), some (.ref _), some (.int _)], [.int _], _)) rfl (u_ rfl) ?_
  refine w_t (pc := 35) (e_s := (3, 2, 4, 0, 0, .null, [])) (y_s := (37, [some (.ref _), some (.int _), some (.ref _), some (.ref _), some (.ref _), some (.int _)], [.ref _, .int _], _)) rfl (u_ rfl) ?_
  refine w20 (pc := 37) (len_s := 3) rfl ?_
  refine wi3 (pc := 40) (len_s := 3) rfl rfl rfl (fun c4_s => ?_) (fun c4_s => ?_)
  · replace t_s := t_s.1 c4_s
    refine w_t (pc := 43) (e_s := (0, 1, 0, 0, 0, .int 0, [])) (y_s := (44, [some (.ref _), some (.int _), some (.ref _), some (.ref _), some (.ref _), some (.int _)], [.int _], _)) rfl (u_ rfl) ?_
    exact wrI (pc := 44) (len_s := 1) rfl hk t_s
  · replace t_s := t_s.2 c4_s
    refine w_t (pc := 45) (e_s := (3, 1, 0, 0, 0, .null, [])) (y_s := (46, [some (.ref _), some (.int _), some (.ref _), some (.ref _), some (.ref _), some (.int _)], [.ref _], _)) rfl (u_ rfl) ?_
    refine w_t (pc := 46) (e_s := (39, 1, 0, 0, 0, .null, [])) (y_s := (47, [some (.ref _), some (.int _), some (.ref _), some (.ref _), some (.ref _), some (.int _)], [.ref _, .ref _], _)) rfl (u_ rfl) ?_
    refine w20 (pc := 47) (len_s := 3) rfl ?_
    refine w_t (pc := 50) (e_s := (0, 1, 0, 0, 0, .int 1, [])) (y_s := (51, [some (.ref _), some (.int _), some (.ref _), some (.ref _), some (.ref _), some (.int _)], [.int _, .int _, .ref _], _)) rfl (u_ rfl) ?_
    refine w_t (pc := 51) (e_s := (7, 1, 0, 0, 0, .null, [])) (y_s := (52, [some (.ref _), some (.int _), some (.ref _), some (.ref _), some (.ref _), some (.int _)], [.int (_ + _), .ref _], _)) rfl (u_ rfl) ?_
    refine w21 (pc := 52) (len_s := 3) rfl ?_
    refine w_t (pc := 55) (e_s := (0, 1, 0, 0, 0, .int 1, [])) (y_s := (56, [some (.ref _), some (.int _), some (.ref _), some (.ref _), some (.ref _), some (.int _)], [.int _], _)) rfl (u_ rfl) ?_
    exact wrI (pc := 56) (len_s := 1) rfl hk t_s
/-- ColdShod$Journey.firstWrong(LColdShod$Idea;LColdShod$Shelf;LColdShod$Country;)I, from 0 on -/
theorem sg_51_0 {F_s : Nat} {d_s s_s : Nat} {h_s : zH} {K_s : Int32 → zH → Prop} (hs : s_s < 6) (hk : hKn h_s) (t_s : wF F_s 51 (3, [some (.ref 50), some (.ref d_s), some (.ref (76 + 2 * s_s)), some (.ref 7), some (.int 0), none], [], h_s) (gI K_s)) : wF (F_s + 1) 51 (0, [some (.ref 50), some (.ref d_s), some (.ref (76 + 2 * s_s)), some (.ref 7), none, none], [], h_s) (gI K_s) := by
  refine w_0 (pc := 0) (e_s := (0, 1, 0, 0, 0, .int 0, [])) (y_s := (1, [some (.ref _), some (.ref _), some (.ref _), some (.ref _), none, none], [.int _], _)) rfl (u_ rfl) ?_
  refine w_t (pc := 1) (e_s := (4, 2, 4, 0, 0, .null, [])) (y_s := (3, [some (.ref _), some (.ref _), some (.ref _), some (.ref _), some (.int _), none], [], _)) rfl (u_ rfl) ?_
  exact t_s
/-- ColdShod$Journey.firstWrong(LColdShod$Idea;LColdShod$Shelf;LColdShod$Country;)I, from 3 on -/
theorem sg_51_3 {F_s : Nat} {d_s s_s : Nat} {x4_s : Int32} {l5 : Option Value} {h_s : zH} {K_s : Int32 → zH → Prop} (hs : s_s < 6) (hk : hKn h_s) (t_s : (x4_s.toInt < (h_s.2.1 (76 + 2 * s_s) 3).toInt → ((x4_s.toInt = 0 → wF F_s 51 (46, [some (.ref 50), some (.ref d_s), some (.ref (76 + 2 * s_s)), some (.ref 7), some (.int x4_s), some (.int 1)], [], h_s) (gI K_s)) ∧ (¬ x4_s.toInt = 0 → (((h_s.2.1 50 1).toInt < x4_s.toInt → wF F_s 51 (46, [some (.ref 50), some (.ref d_s), some (.ref (76 + 2 * s_s)), some (.ref 7), some (.int x4_s), some (.int 0)], [], h_s) (gI K_s)) ∧ (¬ (h_s.2.1 50 1).toInt < x4_s.toInt → wF F_s 50 (0, [some (.ref 50), some (.int (x4_s - 1)), some (.ref d_s), some (.ref 7), none, none], [], h_s) (gI (fun v4_s h4 => hKn h4 → (v4_s.toInt = 0 → wF F_s 51 (46, [some (.ref 50), some (.ref d_s), some (.ref (76 + 2 * s_s)), some (.ref 7), some (.int x4_s), some (.int 0)], [], h4) (gI K_s)) ∧ (¬ v4_s.toInt = 0 → wF F_s 51 (46, [some (.ref 50), some (.ref d_s), some (.ref (76 + 2 * s_s)), some (.ref 7), some (.int x4_s), some (.int 1)], [], h4) (gI K_s))))))))) ∧ (¬ x4_s.toInt < (h_s.2.1 (76 + 2 * s_s) 3).toInt → K_s (-2) h_s)) : wF (F_s + 1) 51 (3, [some (.ref 50), some (.ref d_s), some (.ref (76 + 2 * s_s)), some (.ref 7), some (.int x4_s), l5], [], h_s) (gI K_s) := by
  refine w_0 (pc := 3) (e_s := (1, 2, 4, 0, 0, .null, [])) (y_s := (5, [some (.ref _), some (.ref _), some (.ref _), some (.ref _), some (.int _), _], [.int _], _)) rfl (u_ rfl) ?_
  refine w_t (pc := 5) (e_s := (3, 1, 2, 0, 0, .null, [])) (y_s := (6, [some (.ref _), some (.ref _), some (.ref _), some (.ref _), some (.int _), _], [.ref _, .int _], _)) rfl (u_ rfl) ?_
  refine w20 (pc := 6) (len_s := 3) rfl ?_
  refine wi3 (pc := 9) (len_s := 3) rfl rfl rfl (fun c1_s => ?_) (fun c1_s => ?_)
  · replace t_s := t_s.1 c1_s
    refine w_t (pc := 12) (e_s := (1, 2, 4, 0, 0, .null, [])) (y_s := (14, [some (.ref _), some (.ref _), some (.ref _), some (.ref _), some (.int _), _], [.int _], _)) rfl (u_ rfl) ?_
    refine wq0 (pc := 14) (len_s := 3) rfl rfl (fun c2_s => ?_) (fun c2_s => ?_)
    · replace t_s := t_s.1 c2_s
      refine w_t (pc := 39) (e_s := (0, 1, 0, 0, 0, .int 1, [])) (y_s := (40, [some (.ref _), some (.ref _), some (.ref _), some (.ref _), some (.int _), _], [.int _], _)) rfl (u_ rfl) ?_
      refine w_t (pc := 40) (e_s := (17, 3, 44, 0, 0, .null, [])) (y_s := (44, [some (.ref _), some (.ref _), some (.ref _), some (.ref _), some (.int _), _], [.int _], _)) rfl (u_ rfl) ?_
      refine w_t (pc := 44) (e_s := (4, 2, 5, 0, 0, .null, [])) (y_s := (46, [some (.ref _), some (.ref _), some (.ref _), some (.ref _), some (.int _), some (.int _)], [], _)) rfl (u_ rfl) ?_
      exact t_s
    · replace t_s := t_s.2 c2_s
      refine w_t (pc := 17) (e_s := (1, 2, 4, 0, 0, .null, [])) (y_s := (19, [some (.ref _), some (.ref _), some (.ref _), some (.ref _), some (.int _), _], [.int _], _)) rfl (u_ rfl) ?_
      refine w_t (pc := 19) (e_s := (3, 1, 0, 0, 0, .null, [])) (y_s := (20, [some (.ref _), some (.ref _), some (.ref _), some (.ref _), some (.int _), _], [.ref _, .int _], _)) rfl (u_ rfl) ?_
      refine w20 (pc := 20) (len_s := 3) rfl ?_
      refine wi4 (pc := 23) (len_s := 3) rfl rfl rfl (fun c3_s => ?_) (fun c3_s => ?_)
      · replace t_s := t_s.1 c3_s
        refine w_t (pc := 43) (e_s := (0, 1, 0, 0, 0, .int 0, [])) (y_s := (44, [some (.ref _), some (.ref _), some (.ref _), some (.ref _), some (.int _), _], [.int _], _)) rfl (u_ rfl) ?_
        refine w_t (pc := 44) (e_s := (4, 2, 5, 0, 0, .null, [])) (y_s := (46, [some (.ref _), some (.ref _), some (.ref _), some (.ref _), some (.int _), some (.int _)], [], _)) rfl (u_ rfl) ?_
        exact t_s
      · replace t_s := t_s.2 c3_s
        refine w_t (pc := 26) (e_s := (3, 1, 0, 0, 0, .null, [])) (y_s := (27, [some (.ref _), some (.ref _), some (.ref _), some (.ref _), some (.int _), _], [.ref _], _)) rfl (u_ rfl) ?_
        refine w_t (pc := 27) (e_s := (1, 2, 4, 0, 0, .null, [])) (y_s := (29, [some (.ref _), some (.ref _), some (.ref _), some (.ref _), some (.int _), _], [.int _, .ref _], _)) rfl (u_ rfl) ?_
        refine w_t (pc := 29) (e_s := (0, 1, 0, 0, 0, .int 1, [])) (y_s := (30, [some (.ref _), some (.ref _), some (.ref _), some (.ref _), some (.int _), _], [.int _, .int _, .ref _], _)) rfl (u_ rfl) ?_
        refine w_t (pc := 30) (e_s := (7, 1, 0, 1, 0, .null, [])) (y_s := (31, [some (.ref _), some (.ref _), some (.ref _), some (.ref _), some (.int _), _], [.int (_ - _), .ref _], _)) rfl (u_ rfl) ?_
        refine w_t (pc := 31) (e_s := (3, 1, 1, 0, 0, .null, [])) (y_s := (32, [some (.ref _), some (.ref _), some (.ref _), some (.ref _), some (.int _), _], [.ref _, .int _, .ref _], _)) rfl (u_ rfl) ?_
        refine w_t (pc := 32) (e_s := (3, 1, 3, 0, 0, .null, [])) (y_s := (33, [some (.ref _), some (.ref _), some (.ref _), some (.ref _), some (.int _), _], [.ref _, .ref _, .int _, .ref _], _)) rfl (u_ rfl) ?_
        refine wcI (pc := 33) (len_s := 3) rfl rfl (l := [some (.ref _), some (.int _), some (.ref _), some (.ref _), none, none]) rfl (wmI t_s (fun v4_s h4 hk t_s => ?_))
        replace t_s := t_s hk
        refine wq0 (pc := 36) (len_s := 3) rfl rfl (fun c5_s => ?_) (fun c5_s => ?_)
        · replace t_s := t_s.1 c5_s
          refine w_t (pc := 43) (e_s := (0, 1, 0, 0, 0, .int 0, [])) (y_s := (44, [some (.ref _), some (.ref _), some (.ref _), some (.ref _), some (.int _), _], [.int _], _)) rfl (u_ rfl) ?_
          refine w_t (pc := 44) (e_s := (4, 2, 5, 0, 0, .null, [])) (y_s := (46, [some (.ref _), some (.ref _), some (.ref _), some (.ref _), some (.int _), some (.int _)], [], _)) rfl (u_ rfl) ?_
          exact t_s
        · replace t_s := t_s.2 c5_s
          refine w_t (pc := 39) (e_s := (0, 1, 0, 0, 0, .int 1, [])) (y_s := (40, [some (.ref _), some (.ref _), some (.ref _), some (.ref _), some (.int _), _], [.int _], _)) rfl (u_ rfl) ?_
          refine w_t (pc := 40) (e_s := (17, 3, 44, 0, 0, .null, [])) (y_s := (44, [some (.ref _), some (.ref _), some (.ref _), some (.ref _), some (.int _), _], [.int _], _)) rfl (u_ rfl) ?_
          refine w_t (pc := 44) (e_s := (4, 2, 5, 0, 0, .null, [])) (y_s := (46, [some (.ref _), some (.ref _), some (.ref _), some (.ref _), some (.int _), some (.int _)], [], _)) rfl (u_ rfl) ?_
          exact t_s
  · replace t_s := t_s.2 c1_s
    refine w_t (pc := 76) (e_s := (0, 2, 0, 0, 0, .int (-2), [])) (y_s := (78, [some (.ref _), some (.ref _), some (.ref _), some (.ref _), some (.int _), _], [.int _], _)) rfl (u_ rfl) ?_
    exact wrI (pc := 78) (len_s := 1) rfl hk t_s
/-- ColdShod$Journey.firstWrong(LColdShod$Idea;LColdShod$Shelf;LColdShod$Country;)I, from 46 on -/
theorem sg_51_46 {F_s : Nat} {d_s s_s : Nat} {x4_s x5_s : Int32} {h_s : zH} {K_s : Int32 → zH → Prop} (hs : s_s < 6) (hk : hKn h_s) (t_s : (x5_s.toInt = 0 → K_s x4_s h_s) ∧ (¬ x5_s.toInt = 0 → (zix x4_s < 60 → ((h_s.2.2.1 (76 + 2 * s_s + 1) (zix x4_s)).toInt = (h_s.2.1 d_s 2).toInt → wF F_s 51 (3, [some (.ref 50), some (.ref d_s), some (.ref (76 + 2 * s_s)), some (.ref 7), some (.int (x4_s + 1)), some (.int x5_s)], [], h_s) (gI K_s)) ∧ (¬ (h_s.2.2.1 (76 + 2 * s_s + 1) (zix x4_s)).toInt = (h_s.2.1 d_s 2).toInt → K_s x4_s h_s)))) : wF (F_s + 1) 51 (46, [some (.ref 50), some (.ref d_s), some (.ref (76 + 2 * s_s)), some (.ref 7), some (.int x4_s), some (.int x5_s)], [], h_s) (gI K_s) := by
  refine w_0 (pc := 46) (e_s := (1, 2, 5, 0, 0, .null, [])) (y_s := (48, [some (.ref _), some (.ref _), some (.ref _), some (.ref _), some (.int _), some (.int _)], [.int _], _)) rfl (u_ rfl) ?_
  refine wq0 (pc := 48) (len_s := 3) rfl rfl (fun c1_s => ?_) (fun c1_s => ?_)
  · replace t_s := t_s.1 c1_s
    refine w_t (pc := 67) (e_s := (1, 2, 4, 0, 0, .null, [])) (y_s := (69, [some (.ref _), some (.ref _), some (.ref _), some (.ref _), some (.int _), some (.int _)], [.int _], _)) rfl (u_ rfl) ?_
    exact wrI (pc := 69) (len_s := 1) rfl hk t_s
  · replace t_s := t_s.2 c1_s
    refine w_t (pc := 51) (e_s := (3, 1, 2, 0, 0, .null, [])) (y_s := (52, [some (.ref _), some (.ref _), some (.ref _), some (.ref _), some (.int _), some (.int _)], [.ref _], _)) rfl (u_ rfl) ?_
    refine w20r (pc := 52) (len_s := 3) (q_s := 76 + 2 * s_s + 1) rfl (kshc hk hs) ?_
    refine w_t (pc := 55) (e_s := (1, 2, 4, 0, 0, .null, [])) (y_s := (57, [some (.ref _), some (.ref _), some (.ref _), some (.ref _), some (.int _), some (.int _)], [.int _, .ref _], _)) rfl (u_ rfl) ?_
    refine w23 (pc := 57) (len_s := 1) rfl (kshz hk hs) (fun c2_s => ?_)
    replace t_s := t_s c2_s
    refine w_t (pc := 58) (e_s := (3, 1, 1, 0, 0, .null, [])) (y_s := (59, [some (.ref _), some (.ref _), some (.ref _), some (.ref _), some (.int _), some (.int _)], [.ref _, .long _], _)) rfl (u_ rfl) ?_
    refine w20 (pc := 59) (len_s := 3) rfl ?_
    refine w_t (pc := 62) (e_s := (10, 1, 0, 0, 0, .null, [])) (y_s := (63, [some (.ref _), some (.ref _), some (.ref _), some (.ref _), some (.int _), some (.int _)], [.long (Int32.toInt64 _), .long _], _)) rfl (u_ rfl) ?_
    refine w_t (pc := 63) (e_s := (14, 1, 0, 0, 0, .null, [])) (y_s := (64, [some (.ref _), some (.ref _), some (.ref _), some (.ref _), some (.int _), some (.int _)], [.int (lg_cmp _ _)], _)) rfl (u_ rfl) ?_
    refine wl0 (pc := 64) (len_s := 3) rfl rfl (Int32.toInt_toInt64 _) (fun c3_s => ?_) (fun c3_s => ?_)
    · replace t_s := t_s.1 c3_s
      refine w_t (pc := 70) (e_s := (19, 3, 4, 0, 0, .int 1, [])) (y_s := (73, [some (.ref _), some (.ref _), some (.ref _), some (.ref _), some (.int _), some (.int _)], [], _)) rfl (u_ rfl) ?_
      refine w_t (pc := 73) (e_s := (17, 3, 3, 0, 0, .null, [])) (y_s := (3, [some (.ref _), some (.ref _), some (.ref _), some (.ref _), some (.int _), some (.int _)], [], _)) rfl (u_ rfl) ?_
      exact t_s
    · replace t_s := t_s.2 c3_s
      refine w_t (pc := 67) (e_s := (1, 2, 4, 0, 0, .null, [])) (y_s := (69, [some (.ref _), some (.ref _), some (.ref _), some (.ref _), some (.int _), some (.int _)], [.int _], _)) rfl (u_ rfl) ?_
      exact wrI (pc := 69) (len_s := 1) rfl hk t_s
/-- ColdShod$Journey.allGone(LColdShod$Idea;LColdShod$Country;)Z, from 0 on -/
theorem sg_49_0 {F_s : Nat} {d_s : Nat} {h_s : zH} {K_s : Int32 → zH → Prop} (hk : hKn h_s) (t_s : wF F_s 49 (12, [some (.ref 50), some (.ref d_s), some (.ref 7), some (.int 0)], [], (h_s.1, zup (zup h_s.2.1 50 2 0) 50 3 0, h_s.2.2.1, h_s.2.2.2)) (gI K_s)) : wF (F_s + 1) 49 (0, [some (.ref 50), some (.ref d_s), some (.ref 7), none], [], h_s) (gI K_s) := by
  refine w_0 (pc := 0) (e_s := (3, 1, 0, 0, 0, .null, [])) (y_s := (1, [some (.ref _), some (.ref _), some (.ref _), none], [.ref _], _)) rfl (u_ rfl) ?_
  refine w_t (pc := 1) (e_s := (0, 1, 0, 0, 0, .int 0, [])) (y_s := (2, [some (.ref _), some (.ref _), some (.ref _), none], [.int _, .ref _], _)) rfl (u_ rfl) ?_
  refine w21 (pc := 2) (len_s := 3) rfl ?_
  refine w_t (pc := 5) (e_s := (3, 1, 0, 0, 0, .null, [])) (y_s := (6, [some (.ref _), some (.ref _), some (.ref _), none], [.ref _], _)) rfl (u_ rfl) ?_
  refine w_t (pc := 6) (e_s := (0, 1, 0, 0, 0, .int 0, [])) (y_s := (7, [some (.ref _), some (.ref _), some (.ref _), none], [.int _, .ref _], _)) rfl (u_ rfl) ?_
  refine w21 (pc := 7) (len_s := 3) rfl ?_
  refine w_t (pc := 10) (e_s := (0, 1, 0, 0, 0, .int 0, [])) (y_s := (11, [some (.ref _), some (.ref _), some (.ref _), none], [.int _], _)) rfl (u_ rfl) ?_
  refine w_t (pc := 11) (e_s := (4, 1, 3, 0, 0, .null, [])) (y_s := (12, [some (.ref _), some (.ref _), some (.ref _), some (.int _)], [], _)) rfl (u_ rfl) ?_
  exact t_s
/-- ColdShod$Journey.allGone(LColdShod$Idea;LColdShod$Country;)Z, from 12 on -/
theorem sg_49_12 {F_s : Nat} {d_s : Nat} {x3 : Int32} {h_s : zH} {K_s : Int32 → zH → Prop} (hk : hKn h_s) (t_s : (x3.toInt < (h_s.2.1 50 1).toInt → wF F_s 50 (0, [some (.ref 50), some (.int x3), some (.ref d_s), some (.ref 7), none, none], [], h_s) (gI (fun v2 h2 => hKn h2 → (v2.toInt = 0 → K_s 0 h2) ∧ (¬ v2.toInt = 0 → wF F_s 49 (12, [some (.ref 50), some (.ref d_s), some (.ref 7), some (.int (x3 + 1))], [], h2) (gI K_s))))) ∧ (¬ x3.toInt < (h_s.2.1 50 1).toInt → K_s 1 h_s)) : wF (F_s + 1) 49 (12, [some (.ref 50), some (.ref d_s), some (.ref 7), some (.int x3)], [], h_s) (gI K_s) := by
  refine w_0 (pc := 12) (e_s := (1, 1, 3, 0, 0, .null, [])) (y_s := (13, [some (.ref _), some (.ref _), some (.ref _), some (.int _)], [.int _], _)) rfl (u_ rfl) ?_
  refine w_t (pc := 13) (e_s := (3, 1, 0, 0, 0, .null, [])) (y_s := (14, [some (.ref _), some (.ref _), some (.ref _), some (.int _)], [.ref _, .int _], _)) rfl (u_ rfl) ?_
  refine w20 (pc := 14) (len_s := 3) rfl ?_
  refine wi3 (pc := 17) (len_s := 3) rfl rfl rfl (fun c1_s => ?_) (fun c1_s => ?_)
  · replace t_s := t_s.1 c1_s
    refine w_t (pc := 20) (e_s := (3, 1, 0, 0, 0, .null, [])) (y_s := (21, [some (.ref _), some (.ref _), some (.ref _), some (.int _)], [.ref _], _)) rfl (u_ rfl) ?_
    refine w_t (pc := 21) (e_s := (1, 1, 3, 0, 0, .null, [])) (y_s := (22, [some (.ref _), some (.ref _), some (.ref _), some (.int _)], [.int _, .ref _], _)) rfl (u_ rfl) ?_
    refine w_t (pc := 22) (e_s := (3, 1, 1, 0, 0, .null, [])) (y_s := (23, [some (.ref _), some (.ref _), some (.ref _), some (.int _)], [.ref _, .int _, .ref _], _)) rfl (u_ rfl) ?_
    refine w_t (pc := 23) (e_s := (3, 1, 2, 0, 0, .null, [])) (y_s := (24, [some (.ref _), some (.ref _), some (.ref _), some (.int _)], [.ref _, .ref _, .int _, .ref _], _)) rfl (u_ rfl) ?_
    refine wcI (pc := 24) (len_s := 3) rfl rfl (l := [some (.ref _), some (.int _), some (.ref _), some (.ref _), none, none]) rfl (wmI t_s (fun v2 h2 hk t_s => ?_))
    replace t_s := t_s hk
    refine wq1 (pc := 27) (len_s := 3) rfl rfl (fun c3_s => ?_) (fun c3_s => ?_)
    · replace t_s := t_s.1 c3_s
      refine w_t (pc := 30) (e_s := (0, 1, 0, 0, 0, .int 0, [])) (y_s := (31, [some (.ref _), some (.ref _), some (.ref _), some (.int _)], [.int _], _)) rfl (u_ rfl) ?_
      exact wrI (pc := 31) (len_s := 1) rfl hk t_s
    · replace t_s := t_s.2 c3_s
      refine w_t (pc := 32) (e_s := (19, 3, 3, 0, 0, .int 1, [])) (y_s := (35, [some (.ref _), some (.ref _), some (.ref _), some (.int _)], [], _)) rfl (u_ rfl) ?_
      refine w_t (pc := 35) (e_s := (17, 3, 12, 0, 0, .null, [])) (y_s := (12, [some (.ref _), some (.ref _), some (.ref _), some (.int _)], [], _)) rfl (u_ rfl) ?_
      exact t_s
  · replace t_s := t_s.2 c1_s
    refine w_t (pc := 38) (e_s := (0, 1, 0, 0, 0, .int 1, [])) (y_s := (39, [some (.ref _), some (.ref _), some (.ref _), some (.int _)], [.int _], _)) rfl (u_ rfl) ?_
    exact wrI (pc := 39) (len_s := 1) rfl hk t_s
/-- ColdShod.refusalOfBytes(LColdShod$Shelf;)I, from 0 on -/
theorem sg_140_0 {F_s : Nat} {s_s : Nat} {h_s : zH} {K_s : Int32 → zH → Prop} (hs : s_s < 6) (hk : hKn h_s) (t_s : ((h_s.2.1 (76 + 2 * s_s) 0).toInt = 0 → K_s (-11) h_s) ∧ (¬ (h_s.2.1 (76 + 2 * s_s) 0).toInt = 0 → (((h_s.2.1 (76 + 2 * s_s) 0).toInt = 2 → (((h_s.2.1 (76 + 2 * s_s) 2).toInt = 0 → K_s 0 h_s) ∧ (¬ (h_s.2.1 (76 + 2 * s_s) 2).toInt = 0 → K_s (-12) h_s))) ∧ (¬ (h_s.2.1 (76 + 2 * s_s) 0).toInt = 2 → K_s (-12) h_s)))) : wF (F_s + 1) 140 (0, [some (.ref (76 + 2 * s_s))], [], h_s) (gI K_s) := by
  refine w_0 (pc := 0) (e_s := (3, 1, 0, 0, 0, .null, [])) (y_s := (1, [some (.ref _)], [.ref _], _)) rfl (u_ rfl) ?_
  refine w20 (pc := 1) (len_s := 3) rfl ?_
  refine wq1 (pc := 4) (len_s := 3) rfl rfl (fun c1_s => ?_) (fun c1_s => ?_)
  · replace t_s := t_s.1 c1_s
    refine w_t (pc := 7) (e_s := (0, 2, 0, 0, 0, .int (-11), [])) (y_s := (9, [some (.ref _)], [.int _], _)) rfl (u_ rfl) ?_
    exact wrI (pc := 9) (len_s := 1) rfl hk t_s
  · replace t_s := t_s.2 c1_s
    refine w_t (pc := 10) (e_s := (3, 1, 0, 0, 0, .null, [])) (y_s := (11, [some (.ref _)], [.ref _], _)) rfl (u_ rfl) ?_
    refine wcI (pc := 11) (len_s := 3) rfl rfl (l := [some (.ref _)]) rfl ?_
    refine w_t (pc := 0) (e_s := (3, 1, 0, 0, 0, .null, [])) (y_s := (1, [some (.ref _)], [.ref _], _)) rfl (u_ rfl) ?_
    refine w20 (pc := 1) (len_s := 3) rfl ?_
    refine w_t (pc := 4) (e_s := (0, 1, 0, 0, 0, .int 2, [])) (y_s := (5, [some (.ref _)], [.int _, .int _], _)) rfl (u_ rfl) ?_
    refine wi1 (pc := 5) (len_s := 3) (Y := 2) rfl rfl (by decide) (fun c2_s => ?_) (fun c2_s => ?_)
    · replace t_s := t_s.1 c2_s
      refine w_t (pc := 8) (e_s := (3, 1, 0, 0, 0, .null, [])) (y_s := (9, [some (.ref _)], [.ref _], _)) rfl (u_ rfl) ?_
      refine w20 (pc := 9) (len_s := 3) rfl ?_
      refine wq1 (pc := 12) (len_s := 3) rfl rfl (fun c3_s => ?_) (fun c3_s => ?_)
      · replace t_s := t_s.1 c3_s
        refine w_t (pc := 15) (e_s := (0, 1, 0, 0, 0, .int 1, [])) (y_s := (16, [some (.ref _)], [.int _], _)) rfl (u_ rfl) ?_
        refine w_t (pc := 16) (e_s := (17, 3, 20, 0, 0, .null, [])) (y_s := (20, [some (.ref _)], [.int _], _)) rfl (u_ rfl) ?_
        refine wrI (pc := 20) (len_s := 1) rfl hk ?_
        show wF _ 140 (14, [some (.ref _)], [.int _], _) _
        refine w_t (pc := 14) (e_s := (15, 3, 21, 0, 0, .null, [])) (y_s := (17, [some (.ref _)], [], _)) rfl (u_ rfl) ?_
        refine w_t (pc := 17) (e_s := (0, 1, 0, 0, 0, .int 0, [])) (y_s := (18, [some (.ref _)], [.int _], _)) rfl (u_ rfl) ?_
        refine w_t (pc := 18) (e_s := (17, 3, 23, 0, 0, .null, [])) (y_s := (23, [some (.ref _)], [.int _], _)) rfl (u_ rfl) ?_
        exact wrI (pc := 23) (len_s := 1) rfl hk t_s
      · replace t_s := t_s.2 c3_s
        refine w_t (pc := 19) (e_s := (0, 1, 0, 0, 0, .int 0, [])) (y_s := (20, [some (.ref _)], [.int _], _)) rfl (u_ rfl) ?_
        refine wrI (pc := 20) (len_s := 1) rfl hk ?_
        show wF _ 140 (14, [some (.ref _)], [.int _], _) _
        refine w_t (pc := 14) (e_s := (15, 3, 21, 0, 0, .null, [])) (y_s := (21, [some (.ref _)], [], _)) rfl (u_ rfl) ?_
        refine w_t (pc := 21) (e_s := (0, 2, 0, 0, 0, .int (-12), [])) (y_s := (23, [some (.ref _)], [.int _], _)) rfl (u_ rfl) ?_
        exact wrI (pc := 23) (len_s := 1) rfl hk t_s
    · replace t_s := t_s.2 c2_s
      refine w_t (pc := 19) (e_s := (0, 1, 0, 0, 0, .int 0, [])) (y_s := (20, [some (.ref _)], [.int _], _)) rfl (u_ rfl) ?_
      refine wrI (pc := 20) (len_s := 1) rfl hk ?_
      show wF _ 140 (14, [some (.ref _)], [.int _], _) _
      refine w_t (pc := 14) (e_s := (15, 3, 21, 0, 0, .null, [])) (y_s := (21, [some (.ref _)], [], _)) rfl (u_ rfl) ?_
      refine w_t (pc := 21) (e_s := (0, 2, 0, 0, 0, .int (-12), [])) (y_s := (23, [some (.ref _)], [.int _], _)) rfl (u_ rfl) ?_
      exact wrI (pc := 23) (len_s := 1) rfl hk t_s
/-- ColdShod.thoughtOf(I)LColdShod$Idea;, from 0 on -/
theorem sg_139_0 {F_s : Nat} {x1_s : Int32} {h_s : zH} {K_s : Nat → zH → Prop} (hk : hKn h_s) (t_s : (zix x1_s < 8 → wF F_s 35 (0, [some (.ref 88), some (.ref (20 + (zix x1_s)))], [], h_s) (gV (fun h3 => hKn h3 → K_s 88 h3)))) : wF (F_s + 1) 139 (0, [some (.ref 6), some (.int x1_s)], [], h_s) (gR K_s) := by
  refine w_0 (pc := 0) (e_s := (3, 1, 0, 0, 0, .null, [])) (y_s := (1, [some (.ref _), some (.int _)], [.ref _], _)) rfl (u_ rfl) ?_
  refine w20r (pc := 1) (len_s := 3) (q_s := 72) rfl (krq hk rfl) ?_
  refine w_t (pc := 4) (e_s := (0, 1, 0, 0, 0, .int 0, [])) (y_s := (5, [some (.ref _), some (.int _)], [.int _, .ref _], _)) rfl (u_ rfl) ?_
  refine w24 (g_s := fun j_ => 88 + j_) (pc := 5) (len_s := 1) hk rfl (hk.1 72 2 6 rfl rfl) kg72 (fun c1_s => ?_)
  show wF _ _ (_, _, [.ref 88], _) _
  refine w_t (pc := 6) (e_s := (3, 1, 0, 0, 0, .null, [])) (y_s := (7, [some (.ref _), some (.int _)], [.ref _, .ref _], _)) rfl (u_ rfl) ?_
  refine w20r (pc := 7) (len_s := 3) (q_s := 7) rfl (krq hk rfl) ?_
  refine w20r (pc := 10) (len_s := 3) (q_s := 10) rfl (krq hk rfl) ?_
  refine w_t (pc := 13) (e_s := (1, 1, 1, 0, 0, .null, [])) (y_s := (14, [some (.ref _), some (.int _)], [.int _, .ref _, .ref _], _)) rfl (u_ rfl) ?_
  refine w24 (g_s := fun j_ => 20 + j_) (pc := 14) (len_s := 1) hk rfl (hk.1 10 2 8 rfl rfl) kg10 (fun c2_s => ?_)
  replace t_s := t_s c2_s
  refine wcV (pc := 15) (len_s := 3) rfl rfl (l := [some (.ref _), some (.ref _)]) rfl (wmV t_s (fun h3 hk t_s => ?_))
  replace t_s := t_s hk
  refine w_t (pc := 18) (e_s := (3, 1, 0, 0, 0, .null, [])) (y_s := (19, [some (.ref _), some (.int _)], [.ref _], _)) rfl (u_ rfl) ?_
  refine w20r (pc := 19) (len_s := 3) (q_s := 72) rfl (krq hk rfl) ?_
  refine w_t (pc := 22) (e_s := (0, 1, 0, 0, 0, .int 0, [])) (y_s := (23, [some (.ref _), some (.int _)], [.int _, .ref _], _)) rfl (u_ rfl) ?_
  refine w24 (g_s := fun j_ => 88 + j_) (pc := 23) (len_s := 1) hk rfl (hk.1 72 2 6 rfl rfl) kg72 (fun c4_s => ?_)
  show wF _ _ (_, _, [.ref 88], _) _
  exact wrR (pc := 24) (len_s := 1) rfl hk t_s
/-- ColdShod.judge(II)I, from 0 on -/
theorem sg_110_0 {F_s : Nat} {x1_s : Int32} {x2_s : Int32} {h_s : zH} {K_s : Int32 → zH → Prop} (hk : hKn h_s) (t_s : (x1_s.toInt < 0 → K_s (-1) h_s) ∧ (¬ x1_s.toInt < 0 → (((x1_s / 10).toInt < 0 → K_s (-1) h_s) ∧ (¬ (x1_s / 10).toInt < 0 → (((x1_s / 10).toInt < 6 → (((x1_s - x1_s / 10 * 10).toInt < 0 → K_s (-1) h_s) ∧ (¬ (x1_s - x1_s / 10 * 10).toInt < 0 → (((x1_s - x1_s / 10 * 10).toInt < 6 → ((x2_s.toInt < 0 → K_s (-1) h_s) ∧ (¬ x2_s.toInt < 0 → ((x2_s.toInt < (h_s.2.1 7 7).toInt → (zix (x1_s / 10) < 6 → wF F_s 140 (0, [some (.ref (76 + 2 * (zix (x1_s / 10))))], [], h_s) (gI (fun v9 h9 => hKn h9 → (v9.toInt = 0 → (zix (x1_s - x1_s / 10 * 10) < 6 → wF F_s 140 (0, [some (.ref (76 + 2 * (zix (x1_s - x1_s / 10 * 10))))], [], h9) (gI (fun v12 h12 => hKn h12 → (v12.toInt = 0 → wF F_s 48 (0, [some (.ref 50), some (.ref (76 + 2 * (zix (x1_s / 10)))), some (.int (h12.2.1 7 8)), none, none, none], [], h12) (gV (fun h15 => hKn h15 → wF F_s 139 (0, [some (.ref 6), some (.int x2_s)], [], h15) (gR (fun v16 h16_s => hKn h16_s → wF F_s 51 (0, [some (.ref 50), some (.ref v16), some (.ref (76 + 2 * (zix (x1_s - x1_s / 10 * 10)))), some (.ref 7), none, none], [], h16_s) (gI (fun v18 h18 => hKn h18 → K_s v18 h18))))))) ∧ (¬ v12.toInt = 0 → K_s v12 h12))))) ∧ (¬ v9.toInt = 0 → K_s v9 h9))))) ∧ (¬ x2_s.toInt < (h_s.2.1 7 7).toInt → K_s (-1) h_s))))) ∧ (¬ (x1_s - x1_s / 10 * 10).toInt < 6 → K_s (-1) h_s))))) ∧ (¬ (x1_s / 10).toInt < 6 → K_s (-1) h_s)))))) : wF (F_s + 1) 110 (0, [some (.ref 6), some (.int x1_s), some (.int x2_s), none], [], h_s) (gI K_s) := by
  refine w_0 (pc := 0) (e_s := (1, 1, 1, 0, 0, .null, [])) (y_s := (1, [some (.ref _), some (.int _), some (.int _), none], [.int _], _)) rfl (u_ rfl) ?_
  refine wcI (pc := 1) (len_s := 3) rfl rfl (l := [some (.int _)]) rfl ?_
  refine w_t (pc := 0) (e_s := (1, 1, 0, 0, 0, .null, [])) (y_s := (1, [some (.int _)], [.int _], _)) rfl (u_ rfl) ?_
  refine wq2 (pc := 1) (len_s := 3) rfl rfl (fun c1_s => ?_) (fun c1_s => ?_)
  · replace t_s := t_s.1 c1_s
    refine w_t (pc := 28) (e_s := (0, 1, 0, 0, 0, .int 0, [])) (y_s := (29, [some (.int _)], [.int _], _)) rfl (u_ rfl) ?_
    refine wrI (pc := 29) (len_s := 1) rfl hk ?_
    show wF _ 110 (4, [some (.ref _), some (.int _), some (.int _), none], [.int _], _) _
    refine w_t (pc := 4) (e_s := (15, 3, 18, 0, 0, .null, [])) (y_s := (18, [some (.ref _), some (.int _), some (.int _), none], [], _)) rfl (u_ rfl) ?_
    refine w_t (pc := 18) (e_s := (0, 1, 0, 0, 0, .int (-1), [])) (y_s := (19, [some (.ref _), some (.int _), some (.int _), none], [.int _], _)) rfl (u_ rfl) ?_
    exact wrI (pc := 19) (len_s := 1) rfl hk t_s
  · replace t_s := t_s.2 c1_s
    refine w_t (pc := 4) (e_s := (1, 1, 0, 0, 0, .null, [])) (y_s := (5, [some (.int _)], [.int _], _)) rfl (u_ rfl) ?_
    refine w_t (pc := 5) (e_s := (0, 2, 0, 0, 0, .int 10, [])) (y_s := (7, [some (.int _)], [.int _, .int _], _)) rfl (u_ rfl) ?_
    refine w8 (pc := 7) (len_s := 1) rfl ?_
    refine wcI (pc := 8) (len_s := 3) rfl rfl (l := [some (.int _)]) rfl ?_
    refine w_t (pc := 0) (e_s := (1, 1, 0, 0, 0, .null, [])) (y_s := (1, [some (.int _)], [.int _], _)) rfl (u_ rfl) ?_
    refine wq2 (pc := 1) (len_s := 3) rfl rfl (fun c2_s => ?_) (fun c2_s => ?_)
    · replace t_s := t_s.1 c2_s
      refine w_t (pc := 14) (e_s := (0, 1, 0, 0, 0, .int 0, [])) (y_s := (15, [some (.int _)], [.int _], _)) rfl (u_ rfl) ?_
      refine wrI (pc := 15) (len_s := 1) rfl hk ?_
      show wF _ 136 (11, [some (.int _)], [.int _], _) _
      refine w_t (pc := 11) (e_s := (15, 3, 28, 0, 0, .null, [])) (y_s := (28, [some (.int _)], [], _)) rfl (u_ rfl) ?_
      refine w_t (pc := 28) (e_s := (0, 1, 0, 0, 0, .int 0, [])) (y_s := (29, [some (.int _)], [.int _], _)) rfl (u_ rfl) ?_
      refine wrI (pc := 29) (len_s := 1) rfl hk ?_
      show wF _ 110 (4, [some (.ref _), some (.int _), some (.int _), none], [.int _], _) _
      refine w_t (pc := 4) (e_s := (15, 3, 18, 0, 0, .null, [])) (y_s := (18, [some (.ref _), some (.int _), some (.int _), none], [], _)) rfl (u_ rfl) ?_
      refine w_t (pc := 18) (e_s := (0, 1, 0, 0, 0, .int (-1), [])) (y_s := (19, [some (.ref _), some (.int _), some (.int _), none], [.int _], _)) rfl (u_ rfl) ?_
      exact wrI (pc := 19) (len_s := 1) rfl hk t_s
    · replace t_s := t_s.2 c2_s
      refine w_t (pc := 4) (e_s := (1, 1, 0, 0, 0, .null, [])) (y_s := (5, [some (.int _)], [.int _], _)) rfl (u_ rfl) ?_
      refine w_t (pc := 5) (e_s := (0, 2, 0, 0, 0, .int 6, [])) (y_s := (7, [some (.int _)], [.int _, .int _], _)) rfl (u_ rfl) ?_
      refine wi3 (pc := 7) (len_s := 3) (Y := 6) rfl rfl (by decide) (fun c3_s => ?_) (fun c3_s => ?_)
      · replace t_s := t_s.1 c3_s
        refine w_t (pc := 10) (e_s := (0, 1, 0, 0, 0, .int 1, [])) (y_s := (11, [some (.int _)], [.int _], _)) rfl (u_ rfl) ?_
        refine w_t (pc := 11) (e_s := (17, 3, 15, 0, 0, .null, [])) (y_s := (15, [some (.int _)], [.int _], _)) rfl (u_ rfl) ?_
        refine wrI (pc := 15) (len_s := 1) rfl hk ?_
        show wF _ 136 (11, [some (.int _)], [.int _], _) _
        refine w_t (pc := 11) (e_s := (15, 3, 28, 0, 0, .null, [])) (y_s := (14, [some (.int _)], [], _)) rfl (u_ rfl) ?_
        refine w_t (pc := 14) (e_s := (1, 1, 0, 0, 0, .null, [])) (y_s := (15, [some (.int _)], [.int _], _)) rfl (u_ rfl) ?_
        refine w_t (pc := 15) (e_s := (0, 2, 0, 0, 0, .int 10, [])) (y_s := (17, [some (.int _)], [.int _, .int _], _)) rfl (u_ rfl) ?_
        refine w8m (pc := 17) (len_s := 1) rfl ?_
        refine wcI (pc := 18) (len_s := 3) rfl rfl (l := [some (.int _)]) rfl ?_
        refine w_t (pc := 0) (e_s := (1, 1, 0, 0, 0, .null, [])) (y_s := (1, [some (.int _)], [.int _], _)) rfl (u_ rfl) ?_
        refine wq2 (pc := 1) (len_s := 3) rfl rfl (fun c4_s => ?_) (fun c4_s => ?_)
        · replace t_s := t_s.1 c4_s
          refine w_t (pc := 14) (e_s := (0, 1, 0, 0, 0, .int 0, [])) (y_s := (15, [some (.int _)], [.int _], _)) rfl (u_ rfl) ?_
          refine wrI (pc := 15) (len_s := 1) rfl hk ?_
          show wF _ 136 (21, [some (.int _)], [.int _], _) _
          refine w_t (pc := 21) (e_s := (15, 3, 28, 0, 0, .null, [])) (y_s := (28, [some (.int _)], [], _)) rfl (u_ rfl) ?_
          refine w_t (pc := 28) (e_s := (0, 1, 0, 0, 0, .int 0, [])) (y_s := (29, [some (.int _)], [.int _], _)) rfl (u_ rfl) ?_
          refine wrI (pc := 29) (len_s := 1) rfl hk ?_
          show wF _ 110 (4, [some (.ref _), some (.int _), some (.int _), none], [.int _], _) _
          refine w_t (pc := 4) (e_s := (15, 3, 18, 0, 0, .null, [])) (y_s := (18, [some (.ref _), some (.int _), some (.int _), none], [], _)) rfl (u_ rfl) ?_
          refine w_t (pc := 18) (e_s := (0, 1, 0, 0, 0, .int (-1), [])) (y_s := (19, [some (.ref _), some (.int _), some (.int _), none], [.int _], _)) rfl (u_ rfl) ?_
          exact wrI (pc := 19) (len_s := 1) rfl hk t_s
        · replace t_s := t_s.2 c4_s
          refine w_t (pc := 4) (e_s := (1, 1, 0, 0, 0, .null, [])) (y_s := (5, [some (.int _)], [.int _], _)) rfl (u_ rfl) ?_
          refine w_t (pc := 5) (e_s := (0, 2, 0, 0, 0, .int 6, [])) (y_s := (7, [some (.int _)], [.int _, .int _], _)) rfl (u_ rfl) ?_
          refine wi3 (pc := 7) (len_s := 3) (Y := 6) rfl rfl (by decide) (fun c5_s => ?_) (fun c5_s => ?_)
          · replace t_s := t_s.1 c5_s
            refine w_t (pc := 10) (e_s := (0, 1, 0, 0, 0, .int 1, [])) (y_s := (11, [some (.int _)], [.int _], _)) rfl (u_ rfl) ?_
            refine w_t (pc := 11) (e_s := (17, 3, 15, 0, 0, .null, [])) (y_s := (15, [some (.int _)], [.int _], _)) rfl (u_ rfl) ?_
            refine wrI (pc := 15) (len_s := 1) rfl hk ?_
            show wF _ 136 (21, [some (.int _)], [.int _], _) _
            refine w_t (pc := 21) (e_s := (15, 3, 28, 0, 0, .null, [])) (y_s := (24, [some (.int _)], [], _)) rfl (u_ rfl) ?_
            refine w_t (pc := 24) (e_s := (0, 1, 0, 0, 0, .int 1, [])) (y_s := (25, [some (.int _)], [.int _], _)) rfl (u_ rfl) ?_
            refine w_t (pc := 25) (e_s := (17, 3, 29, 0, 0, .null, [])) (y_s := (29, [some (.int _)], [.int _], _)) rfl (u_ rfl) ?_
            refine wrI (pc := 29) (len_s := 1) rfl hk ?_
            show wF _ 110 (4, [some (.ref _), some (.int _), some (.int _), none], [.int _], _) _
            refine w_t (pc := 4) (e_s := (15, 3, 18, 0, 0, .null, [])) (y_s := (7, [some (.ref _), some (.int _), some (.int _), none], [], _)) rfl (u_ rfl) ?_
            refine w_t (pc := 7) (e_s := (3, 1, 0, 0, 0, .null, [])) (y_s := (8, [some (.ref _), some (.int _), some (.int _), none], [.ref _], _)) rfl (u_ rfl) ?_
            refine w20r (pc := 8) (len_s := 3) (q_s := 7) rfl (krq hk rfl) ?_
            refine w_t (pc := 11) (e_s := (1, 1, 2, 0, 0, .null, [])) (y_s := (12, [some (.ref _), some (.int _), some (.int _), none], [.int _, .ref _], _)) rfl (u_ rfl) ?_
            refine wcI (pc := 12) (len_s := 3) rfl rfl (l := [some (.ref _), some (.int _)]) rfl ?_
            refine w_t (pc := 0) (e_s := (1, 1, 1, 0, 0, .null, [])) (y_s := (1, [some (.ref _), some (.int _)], [.int _], _)) rfl (u_ rfl) ?_
            refine wq2 (pc := 1) (len_s := 3) rfl rfl (fun c6_s => ?_) (fun c6_s => ?_)
            · replace t_s := t_s.1 c6_s
              refine w_t (pc := 16) (e_s := (0, 1, 0, 0, 0, .int 0, [])) (y_s := (17, [some (.ref _), some (.int _)], [.int _], _)) rfl (u_ rfl) ?_
              refine wrI (pc := 17) (len_s := 1) rfl hk ?_
              show wF _ 110 (15, [some (.ref _), some (.int _), some (.int _), none], [.int _], _) _
              refine w_t (pc := 15) (e_s := (15, 3, 20, 1, 0, .null, [])) (y_s := (18, [some (.ref _), some (.int _), some (.int _), none], [], _)) rfl (u_ rfl) ?_
              refine w_t (pc := 18) (e_s := (0, 1, 0, 0, 0, .int (-1), [])) (y_s := (19, [some (.ref _), some (.int _), some (.int _), none], [.int _], _)) rfl (u_ rfl) ?_
              exact wrI (pc := 19) (len_s := 1) rfl hk t_s
            · replace t_s := t_s.2 c6_s
              refine w_t (pc := 4) (e_s := (1, 1, 1, 0, 0, .null, [])) (y_s := (5, [some (.ref _), some (.int _)], [.int _], _)) rfl (u_ rfl) ?_
              refine w_t (pc := 5) (e_s := (3, 1, 0, 0, 0, .null, [])) (y_s := (6, [some (.ref _), some (.int _)], [.ref _, .int _], _)) rfl (u_ rfl) ?_
              refine w20 (pc := 6) (len_s := 3) rfl ?_
              refine wi3 (pc := 9) (len_s := 3) rfl rfl rfl (fun c7_s => ?_) (fun c7_s => ?_)
              · replace t_s := t_s.1 c7_s
                refine w_t (pc := 12) (e_s := (0, 1, 0, 0, 0, .int 1, [])) (y_s := (13, [some (.ref _), some (.int _)], [.int _], _)) rfl (u_ rfl) ?_
                refine w_t (pc := 13) (e_s := (17, 3, 17, 0, 0, .null, [])) (y_s := (17, [some (.ref _), some (.int _)], [.int _], _)) rfl (u_ rfl) ?_
                refine wrI (pc := 17) (len_s := 1) rfl hk ?_
                show wF _ 110 (15, [some (.ref _), some (.int _), some (.int _), none], [.int _], _) _
                refine w_t (pc := 15) (e_s := (15, 3, 20, 1, 0, .null, [])) (y_s := (20, [some (.ref _), some (.int _), some (.int _), none], [], _)) rfl (u_ rfl) ?_
                refine w_t (pc := 20) (e_s := (3, 1, 0, 0, 0, .null, [])) (y_s := (21, [some (.ref _), some (.int _), some (.int _), none], [.ref _], _)) rfl (u_ rfl) ?_
                refine w_t (pc := 21) (e_s := (1, 1, 1, 0, 0, .null, [])) (y_s := (22, [some (.ref _), some (.int _), some (.int _), none], [.int _, .ref _], _)) rfl (u_ rfl) ?_
                refine wcI (pc := 22) (len_s := 3) rfl rfl (l := [some (.ref _), some (.int _), none]) rfl ?_
                refine w_t (pc := 0) (e_s := (3, 1, 0, 0, 0, .null, [])) (y_s := (1, [some (.ref _), some (.int _), none], [.ref _], _)) rfl (u_ rfl) ?_
                refine w20r (pc := 1) (len_s := 3) (q_s := 71) rfl (krq hk rfl) ?_
                refine w_t (pc := 4) (e_s := (1, 1, 1, 0, 0, .null, [])) (y_s := (5, [some (.ref _), some (.int _), none], [.int _, .ref _], _)) rfl (u_ rfl) ?_
                refine w_t (pc := 5) (e_s := (0, 2, 0, 0, 0, .int 10, [])) (y_s := (7, [some (.ref _), some (.int _), none], [.int _, .int _, .ref _], _)) rfl (u_ rfl) ?_
                refine w8 (pc := 7) (len_s := 1) rfl ?_
                refine w24 (g_s := fun j_ => 76 + 2 * j_) (pc := 8) (len_s := 1) hk rfl (hk.1 71 4 6 rfl rfl) kg71 (fun c8_s => ?_)
                replace t_s := t_s c8_s
                refine wcI (pc := 9) (len_s := 3) rfl rfl (l := [some (.ref _)]) rfl (wmI t_s (fun v9 h9 hk t_s => ?_))
                replace t_s := t_s hk
                refine w_t (pc := 12) (e_s := (4, 1, 2, 0, 0, .null, [])) (y_s := (13, [some (.ref _), some (.int _), some (.int _)], [], _)) rfl (u_ rfl) ?_
                refine w_t (pc := 13) (e_s := (1, 1, 2, 0, 0, .null, [])) (y_s := (14, [some (.ref _), some (.int _), some (.int _)], [.int _], _)) rfl (u_ rfl) ?_
                refine wq0 (pc := 14) (len_s := 3) rfl rfl (fun c10_s => ?_) (fun c10_s => ?_)
                · replace t_s := t_s.1 c10_s
                  refine w_t (pc := 21) (e_s := (3, 1, 0, 0, 0, .null, [])) (y_s := (22, [some (.ref _), some (.int _), some (.int _)], [.ref _], _)) rfl (u_ rfl) ?_
                  refine w20r (pc := 22) (len_s := 3) (q_s := 71) rfl (krq hk rfl) ?_
                  refine w_t (pc := 25) (e_s := (1, 1, 1, 0, 0, .null, [])) (y_s := (26, [some (.ref _), some (.int _), some (.int _)], [.int _, .ref _], _)) rfl (u_ rfl) ?_
                  refine w_t (pc := 26) (e_s := (0, 2, 0, 0, 0, .int 10, [])) (y_s := (28, [some (.ref _), some (.int _), some (.int _)], [.int _, .int _, .ref _], _)) rfl (u_ rfl) ?_
                  refine w8m (pc := 28) (len_s := 1) rfl ?_
                  refine w24 (g_s := fun j_ => 76 + 2 * j_) (pc := 29) (len_s := 1) hk rfl (hk.1 71 4 6 rfl rfl) kg71 (fun c11_s => ?_)
                  replace t_s := t_s c11_s
                  refine wcI (pc := 30) (len_s := 3) rfl rfl (l := [some (.ref _)]) rfl (wmI t_s (fun v12 h12 hk t_s => ?_))
                  replace t_s := t_s hk
                  refine wrI (pc := 33) (len_s := 1) rfl hk ?_
                  show wF _ 110 (25, [some (.ref _), some (.int _), some (.int _), none], [.int _], _) _
                  refine w_t (pc := 25) (e_s := (4, 1, 3, 0, 0, .null, [])) (y_s := (26, [some (.ref _), some (.int _), some (.int _), some (.int _)], [], _)) rfl (u_ rfl) ?_
                  refine w_t (pc := 26) (e_s := (1, 1, 3, 0, 0, .null, [])) (y_s := (27, [some (.ref _), some (.int _), some (.int _), some (.int _)], [.int _], _)) rfl (u_ rfl) ?_
                  refine wq0 (pc := 27) (len_s := 3) rfl rfl (fun c13_s => ?_) (fun c13_s => ?_)
                  · replace t_s := t_s.1 c13_s
                    refine w_t (pc := 32) (e_s := (3, 1, 0, 0, 0, .null, [])) (y_s := (33, [some (.ref _), some (.int _), some (.int _), some (.int _)], [.ref _], _)) rfl (u_ rfl) ?_
                    refine w20r (pc := 33) (len_s := 3) (q_s := 50) rfl (krq hk rfl) ?_
                    refine w_t (pc := 36) (e_s := (3, 1, 0, 0, 0, .null, [])) (y_s := (37, [some (.ref _), some (.int _), some (.int _), some (.int _)], [.ref _, .ref _], _)) rfl (u_ rfl) ?_
                    refine w20r (pc := 37) (len_s := 3) (q_s := 71) rfl (krq hk rfl) ?_
                    refine w_t (pc := 40) (e_s := (1, 1, 1, 0, 0, .null, [])) (y_s := (41, [some (.ref _), some (.int _), some (.int _), some (.int _)], [.int _, .ref _, .ref _], _)) rfl (u_ rfl) ?_
                    refine w_t (pc := 41) (e_s := (0, 2, 0, 0, 0, .int 10, [])) (y_s := (43, [some (.ref _), some (.int _), some (.int _), some (.int _)], [.int _, .int _, .ref _, .ref _], _)) rfl (u_ rfl) ?_
                    refine w8 (pc := 43) (len_s := 1) rfl ?_
                    refine w24 (g_s := fun j_ => 76 + 2 * j_) (pc := 44) (len_s := 1) hk rfl (hk.1 71 4 6 rfl rfl) kg71 (fun c14_s => ?_)
                    refine w_t (pc := 45) (e_s := (3, 1, 0, 0, 0, .null, [])) (y_s := (46, [some (.ref _), some (.int _), some (.int _), some (.int _)], [.ref _, .ref _, .ref _], _)) rfl (u_ rfl) ?_
                    refine w20r (pc := 46) (len_s := 3) (q_s := 7) rfl (krq hk rfl) ?_
                    refine w20 (pc := 49) (len_s := 3) rfl ?_
                    refine wcV (pc := 52) (len_s := 3) rfl rfl (l := [some (.ref _), some (.ref _), some (.int _), none, none, none]) rfl (wmV t_s (fun h15 hk t_s => ?_))
                    replace t_s := t_s hk
                    refine w_t (pc := 55) (e_s := (3, 1, 0, 0, 0, .null, [])) (y_s := (56, [some (.ref _), some (.int _), some (.int _), some (.int _)], [.ref _], _)) rfl (u_ rfl) ?_
                    refine w20r (pc := 56) (len_s := 3) (q_s := 50) rfl (krq hk rfl) ?_
                    refine w_t (pc := 59) (e_s := (3, 1, 0, 0, 0, .null, [])) (y_s := (60, [some (.ref _), some (.int _), some (.int _), some (.int _)], [.ref _, .ref _], _)) rfl (u_ rfl) ?_
                    refine w_t (pc := 60) (e_s := (1, 1, 2, 0, 0, .null, [])) (y_s := (61, [some (.ref _), some (.int _), some (.int _), some (.int _)], [.int _, .ref _, .ref _], _)) rfl (u_ rfl) ?_
                    refine wcR (pc := 61) (len_s := 3) rfl rfl (l := [some (.ref _), some (.int _)]) rfl (wmR t_s (fun v16 h16_s hk t_s => ?_))
                    replace t_s := t_s hk
                    refine w_t (pc := 64) (e_s := (3, 1, 0, 0, 0, .null, [])) (y_s := (65, [some (.ref _), some (.int _), some (.int _), some (.int _)], [.ref _, .ref _, .ref _], _)) rfl (u_ rfl) ?_
                    refine w20r (pc := 65) (len_s := 3) (q_s := 71) rfl (krq hk rfl) ?_
                    refine w_t (pc := 68) (e_s := (1, 1, 1, 0, 0, .null, [])) (y_s := (69, [some (.ref _), some (.int _), some (.int _), some (.int _)], [.int _, .ref _, .ref _, .ref _], _)) rfl (u_ rfl) ?_
                    refine w_t (pc := 69) (e_s := (0, 2, 0, 0, 0, .int 10, [])) (y_s := (71, [some (.ref _), some (.int _), some (.int _), some (.int _)], [.int _, .int _, .ref _, .ref _, .ref _], _)) rfl (u_ rfl) ?_
                    refine w8m (pc := 71) (len_s := 1) rfl ?_
                    refine w24 (g_s := fun j_ => 76 + 2 * j_) (pc := 72) (len_s := 1) hk rfl (hk.1 71 4 6 rfl rfl) kg71 (fun c17 => ?_)
                    refine w_t (pc := 73) (e_s := (3, 1, 0, 0, 0, .null, [])) (y_s := (74, [some (.ref _), some (.int _), some (.int _), some (.int _)], [.ref _, .ref _, .ref _, .ref _], _)) rfl (u_ rfl) ?_
                    refine w20r (pc := 74) (len_s := 3) (q_s := 7) rfl (krq hk rfl) ?_
                    refine wcI (pc := 77) (len_s := 3) rfl rfl (l := [some (.ref _), some (.ref _), some (.ref _), some (.ref _), none, none]) rfl (wmI t_s (fun v18 h18 hk t_s => ?_))
                    replace t_s := t_s hk
                    exact wrI (pc := 80) (len_s := 1) rfl hk t_s
                  · replace t_s := t_s.2 c13_s
                    refine w_t (pc := 30) (e_s := (1, 1, 3, 0, 0, .null, [])) (y_s := (31, [some (.ref _), some (.int _), some (.int _), some (.int _)], [.int _], _)) rfl (u_ rfl) ?_
                    exact wrI (pc := 31) (len_s := 1) rfl hk t_s
                · replace t_s := t_s.2 c10_s
                  refine w_t (pc := 17) (e_s := (1, 1, 2, 0, 0, .null, [])) (y_s := (18, [some (.ref _), some (.int _), some (.int _)], [.int _], _)) rfl (u_ rfl) ?_
                  refine w_t (pc := 18) (e_s := (17, 3, 33, 0, 0, .null, [])) (y_s := (33, [some (.ref _), some (.int _), some (.int _)], [.int _], _)) rfl (u_ rfl) ?_
                  refine wrI (pc := 33) (len_s := 1) rfl hk ?_
                  show wF _ 110 (25, [some (.ref _), some (.int _), some (.int _), none], [.int _], _) _
                  refine w_t (pc := 25) (e_s := (4, 1, 3, 0, 0, .null, [])) (y_s := (26, [some (.ref _), some (.int _), some (.int _), some (.int _)], [], _)) rfl (u_ rfl) ?_
                  refine w_t (pc := 26) (e_s := (1, 1, 3, 0, 0, .null, [])) (y_s := (27, [some (.ref _), some (.int _), some (.int _), some (.int _)], [.int _], _)) rfl (u_ rfl) ?_
                  refine wq0 (pc := 27) (len_s := 3) rfl rfl (fun c19_s => ?_) (fun c19_s => ?_)
                  · exact absurd c19_s c10_s
                  · skip
                    refine w_t (pc := 30) (e_s := (1, 1, 3, 0, 0, .null, [])) (y_s := (31, [some (.ref _), some (.int _), some (.int _), some (.int _)], [.int _], _)) rfl (u_ rfl) ?_
                    exact wrI (pc := 31) (len_s := 1) rfl hk t_s
              · replace t_s := t_s.2 c7_s
                refine w_t (pc := 16) (e_s := (0, 1, 0, 0, 0, .int 0, [])) (y_s := (17, [some (.ref _), some (.int _)], [.int _], _)) rfl (u_ rfl) ?_
                refine wrI (pc := 17) (len_s := 1) rfl hk ?_
                show wF _ 110 (15, [some (.ref _), some (.int _), some (.int _), none], [.int _], _) _
                refine w_t (pc := 15) (e_s := (15, 3, 20, 1, 0, .null, [])) (y_s := (18, [some (.ref _), some (.int _), some (.int _), none], [], _)) rfl (u_ rfl) ?_
                refine w_t (pc := 18) (e_s := (0, 1, 0, 0, 0, .int (-1), [])) (y_s := (19, [some (.ref _), some (.int _), some (.int _), none], [.int _], _)) rfl (u_ rfl) ?_
                exact wrI (pc := 19) (len_s := 1) rfl hk t_s
          · replace t_s := t_s.2 c5_s
            refine w_t (pc := 14) (e_s := (0, 1, 0, 0, 0, .int 0, [])) (y_s := (15, [some (.int _)], [.int _], _)) rfl (u_ rfl) ?_
            refine wrI (pc := 15) (len_s := 1) rfl hk ?_
            show wF _ 136 (21, [some (.int _)], [.int _], _) _
            refine w_t (pc := 21) (e_s := (15, 3, 28, 0, 0, .null, [])) (y_s := (28, [some (.int _)], [], _)) rfl (u_ rfl) ?_
            refine w_t (pc := 28) (e_s := (0, 1, 0, 0, 0, .int 0, [])) (y_s := (29, [some (.int _)], [.int _], _)) rfl (u_ rfl) ?_
            refine wrI (pc := 29) (len_s := 1) rfl hk ?_
            show wF _ 110 (4, [some (.ref _), some (.int _), some (.int _), none], [.int _], _) _
            refine w_t (pc := 4) (e_s := (15, 3, 18, 0, 0, .null, [])) (y_s := (18, [some (.ref _), some (.int _), some (.int _), none], [], _)) rfl (u_ rfl) ?_
            refine w_t (pc := 18) (e_s := (0, 1, 0, 0, 0, .int (-1), [])) (y_s := (19, [some (.ref _), some (.int _), some (.int _), none], [.int _], _)) rfl (u_ rfl) ?_
            exact wrI (pc := 19) (len_s := 1) rfl hk t_s
      · replace t_s := t_s.2 c3_s
        refine w_t (pc := 14) (e_s := (0, 1, 0, 0, 0, .int 0, [])) (y_s := (15, [some (.int _)], [.int _], _)) rfl (u_ rfl) ?_
        refine wrI (pc := 15) (len_s := 1) rfl hk ?_
        show wF _ 136 (11, [some (.int _)], [.int _], _) _
        refine w_t (pc := 11) (e_s := (15, 3, 28, 0, 0, .null, [])) (y_s := (28, [some (.int _)], [], _)) rfl (u_ rfl) ?_
        refine w_t (pc := 28) (e_s := (0, 1, 0, 0, 0, .int 0, [])) (y_s := (29, [some (.int _)], [.int _], _)) rfl (u_ rfl) ?_
        refine wrI (pc := 29) (len_s := 1) rfl hk ?_
        show wF _ 110 (4, [some (.ref _), some (.int _), some (.int _), none], [.int _], _) _
        refine w_t (pc := 4) (e_s := (15, 3, 18, 0, 0, .null, [])) (y_s := (18, [some (.ref _), some (.int _), some (.int _), none], [], _)) rfl (u_ rfl) ?_
        refine w_t (pc := 18) (e_s := (0, 1, 0, 0, 0, .int (-1), [])) (y_s := (19, [some (.ref _), some (.int _), some (.int _), none], [.int _], _)) rfl (u_ rfl) ?_
        exact wrI (pc := 19) (len_s := 1) rfl hk t_s
/-- ColdShod.edge(III)I, from 0 on -/
theorem sg_111_0 {F_s : Nat} {x1_s : Int32} {x2_s : Int32} {x3 : Int32} {h_s : zH} {K_s : Int32 → zH → Prop} (hk : hKn h_s) (t_s : (x1_s.toInt < 0 → K_s (-1) h_s) ∧ (¬ x1_s.toInt < 0 → (((x1_s / 10).toInt < 0 → K_s (-1) h_s) ∧ (¬ (x1_s / 10).toInt < 0 → (((x1_s / 10).toInt < 6 → (((x1_s - x1_s / 10 * 10).toInt < 0 → K_s (-1) h_s) ∧ (¬ (x1_s - x1_s / 10 * 10).toInt < 0 → (((x1_s - x1_s / 10 * 10).toInt < 6 → ((x2_s.toInt < 0 → K_s (-1) h_s) ∧ (¬ x2_s.toInt < 0 → ((x2_s.toInt < (h_s.2.1 7 7).toInt → ((x3.toInt < 0 → K_s (-1) h_s) ∧ (¬ x3.toInt < 0 → ((1 < x3.toInt → K_s (-1) h_s) ∧ (¬ 1 < x3.toInt → (zix (x1_s / 10) < 6 → wF F_s 140 (0, [some (.ref (76 + 2 * (zix (x1_s / 10))))], [], h_s) (gI (fun v11 h11 => hKn h11 → (v11.toInt = 0 → (zix (x1_s - x1_s / 10 * 10) < 6 → wF F_s 140 (0, [some (.ref (76 + 2 * (zix (x1_s - x1_s / 10 * 10))))], [], h11) (gI (fun v14 h14 => hKn h14 → (v14.toInt = 0 → wF F_s 48 (0, [some (.ref 50), some (.ref (76 + 2 * (zix (x1_s / 10)))), some (.int (h14.2.1 7 8)), none, none, none], [], h14) (gV (fun h17 => hKn h17 → (x3.toInt = 0 → wF F_s 111 (84, [some (.ref 6), some (.int x1_s), some (.int x2_s), some (.int x3), some (.int v14), some (.int 3), some (.int 0), some (.int 0), none], [], h17) (gI K_s)) ∧ (¬ x3.toInt = 0 → wF F_s 111 (84, [some (.ref 6), some (.int x1_s), some (.int x2_s), some (.int x3), some (.int v14), some (.int 5), some (.int 0), some (.int 0), none], [], h17) (gI K_s))))) ∧ (¬ v14.toInt = 0 → K_s v14 h14))))) ∧ (¬ v11.toInt = 0 → K_s v11 h11))))))))) ∧ (¬ x2_s.toInt < (h_s.2.1 7 7).toInt → K_s (-1) h_s))))) ∧ (¬ (x1_s - x1_s / 10 * 10).toInt < 6 → K_s (-1) h_s))))) ∧ (¬ (x1_s / 10).toInt < 6 → K_s (-1) h_s)))))) : wF (F_s + 1) 111 (0, [some (.ref 6), some (.int x1_s), some (.int x2_s), some (.int x3), none, none, none, none, none], [], h_s) (gI K_s) := by
  refine w_0 (pc := 0) (e_s := (1, 1, 1, 0, 0, .null, [])) (y_s := (1, [some (.ref _), some (.int _), some (.int _), some (.int _), none, none, none, none, none], [.int _], _)) rfl (u_ rfl) ?_
  refine wcI (pc := 1) (len_s := 3) rfl rfl (l := [some (.int _)]) rfl ?_
  refine w_t (pc := 0) (e_s := (1, 1, 0, 0, 0, .null, [])) (y_s := (1, [some (.int _)], [.int _], _)) rfl (u_ rfl) ?_
  refine wq2 (pc := 1) (len_s := 3) rfl rfl (fun c1_s => ?_) (fun c1_s => ?_)
  · replace t_s := t_s.1 c1_s
    refine w_t (pc := 28) (e_s := (0, 1, 0, 0, 0, .int 0, [])) (y_s := (29, [some (.int _)], [.int _], _)) rfl (u_ rfl) ?_
    refine wrI (pc := 29) (len_s := 1) rfl hk ?_
    show wF _ 111 (4, [some (.ref _), some (.int _), some (.int _), some (.int _), none, none, none, none, none], [.int _], _) _
    refine w_t (pc := 4) (e_s := (15, 3, 27, 0, 0, .null, [])) (y_s := (27, [some (.ref _), some (.int _), some (.int _), some (.int _), none, none, none, none, none], [], _)) rfl (u_ rfl) ?_
    refine w_t (pc := 27) (e_s := (0, 1, 0, 0, 0, .int (-1), [])) (y_s := (28, [some (.ref _), some (.int _), some (.int _), some (.int _), none, none, none, none, none], [.int _], _)) rfl (u_ rfl) ?_
    exact wrI (pc := 28) (len_s := 1) rfl hk t_s
  · replace t_s := t_s.2 c1_s
    refine w_t (pc := 4) (e_s := (1, 1, 0, 0, 0, .null, [])) (y_s := (5, [some (.int _)], [.int _], _)) rfl (u_ rfl) ?_
    refine w_t (pc := 5) (e_s := (0, 2, 0, 0, 0, .int 10, [])) (y_s := (7, [some (.int _)], [.int _, .int _], _)) rfl (u_ rfl) ?_
    refine w8 (pc := 7) (len_s := 1) rfl ?_
    refine wcI (pc := 8) (len_s := 3) rfl rfl (l := [some (.int _)]) rfl ?_
    refine w_t (pc := 0) (e_s := (1, 1, 0, 0, 0, .null, [])) (y_s := (1, [some (.int _)], [.int _], _)) rfl (u_ rfl) ?_
    refine wq2 (pc := 1) (len_s := 3) rfl rfl (fun c2_s => ?_) (fun c2_s => ?_)
    · replace t_s := t_s.1 c2_s
      refine w_t (pc := 14) (e_s := (0, 1, 0, 0, 0, .int 0, [])) (y_s := (15, [some (.int _)], [.int _], _)) rfl (u_ rfl) ?_
      refine wrI (pc := 15) (len_s := 1) rfl hk ?_
      show wF _ 136 (11, [some (.int _)], [.int _], _) _
      refine w_t (pc := 11) (e_s := (15, 3, 28, 0, 0, .null, [])) (y_s := (28, [some (.int _)], [], _)) rfl (u_ rfl) ?_
      refine w_t (pc := 28) (e_s := (0, 1, 0, 0, 0, .int 0, [])) (y_s := (29, [some (.int _)], [.int _], _)) rfl (u_ rfl) ?_
      refine wrI (pc := 29) (len_s := 1) rfl hk ?_
      show wF _ 111 (4, [some (.ref _), some (.int _), some (.int _), some (.int _), none, none, none, none, none], [.int _], _) _
      refine w_t (pc := 4) (e_s := (15, 3, 27, 0, 0, .null, [])) (y_s := (27, [some (.ref _), some (.int _), some (.int _), some (.int _), none, none, none, none, none], [], _)) rfl (u_ rfl) ?_
      refine w_t (pc := 27) (e_s := (0, 1, 0, 0, 0, .int (-1), [])) (y_s := (28, [some (.ref _), some (.int _), some (.int _), some (.int _), none, none, none, none, none], [.int _], _)) rfl (u_ rfl) ?_
      exact wrI (pc := 28) (len_s := 1) rfl hk t_s
    · replace t_s := t_s.2 c2_s
      refine w_t (pc := 4) (e_s := (1, 1, 0, 0, 0, .null, [])) (y_s := (5, [some (.int _)], [.int _], _)) rfl (u_ rfl) ?_
      refine w_t (pc := 5) (e_s := (0, 2, 0, 0, 0, .int 6, [])) (y_s := (7, [some (.int _)], [.int _, .int _], _)) rfl (u_ rfl) ?_
      refine wi3 (pc := 7) (len_s := 3) (Y := 6) rfl rfl (by decide) (fun c3_s => ?_) (fun c3_s => ?_)
      · replace t_s := t_s.1 c3_s
        refine w_t (pc := 10) (e_s := (0, 1, 0, 0, 0, .int 1, [])) (y_s := (11, [some (.int _)], [.int _], _)) rfl (u_ rfl) ?_
        refine w_t (pc := 11) (e_s := (17, 3, 15, 0, 0, .null, [])) (y_s := (15, [some (.int _)], [.int _], _)) rfl (u_ rfl) ?_
        refine wrI (pc := 15) (len_s := 1) rfl hk ?_
        show wF _ 136 (11, [some (.int _)], [.int _], _) _
        refine w_t (pc := 11) (e_s := (15, 3, 28, 0, 0, .null, [])) (y_s := (14, [some (.int _)], [], _)) rfl (u_ rfl) ?_
        refine w_t (pc := 14) (e_s := (1, 1, 0, 0, 0, .null, [])) (y_s := (15, [some (.int _)], [.int _], _)) rfl (u_ rfl) ?_
        refine w_t (pc := 15) (e_s := (0, 2, 0, 0, 0, .int 10, [])) (y_s := (17, [some (.int _)], [.int _, .int _], _)) rfl (u_ rfl) ?_
        refine w8m (pc := 17) (len_s := 1) rfl ?_
        refine wcI (pc := 18) (len_s := 3) rfl rfl (l := [some (.int _)]) rfl ?_
        refine w_t (pc := 0) (e_s := (1, 1, 0, 0, 0, .null, [])) (y_s := (1, [some (.int _)], [.int _], _)) rfl (u_ rfl) ?_
        refine wq2 (pc := 1) (len_s := 3) rfl rfl (fun c4_s => ?_) (fun c4_s => ?_)
        · replace t_s := t_s.1 c4_s
          refine w_t (pc := 14) (e_s := (0, 1, 0, 0, 0, .int 0, [])) (y_s := (15, [some (.int _)], [.int _], _)) rfl (u_ rfl) ?_
          refine wrI (pc := 15) (len_s := 1) rfl hk ?_
          show wF _ 136 (21, [some (.int _)], [.int _], _) _
          refine w_t (pc := 21) (e_s := (15, 3, 28, 0, 0, .null, [])) (y_s := (28, [some (.int _)], [], _)) rfl (u_ rfl) ?_
          refine w_t (pc := 28) (e_s := (0, 1, 0, 0, 0, .int 0, [])) (y_s := (29, [some (.int _)], [.int _], _)) rfl (u_ rfl) ?_
          refine wrI (pc := 29) (len_s := 1) rfl hk ?_
          show wF _ 111 (4, [some (.ref _), some (.int _), some (.int _), some (.int _), none, none, none, none, none], [.int _], _) _
          refine w_t (pc := 4) (e_s := (15, 3, 27, 0, 0, .null, [])) (y_s := (27, [some (.ref _), some (.int _), some (.int _), some (.int _), none, none, none, none, none], [], _)) rfl (u_ rfl) ?_
          refine w_t (pc := 27) (e_s := (0, 1, 0, 0, 0, .int (-1), [])) (y_s := (28, [some (.ref _), some (.int _), some (.int _), some (.int _), none, none, none, none, none], [.int _], _)) rfl (u_ rfl) ?_
          exact wrI (pc := 28) (len_s := 1) rfl hk t_s
        · replace t_s := t_s.2 c4_s
          refine w_t (pc := 4) (e_s := (1, 1, 0, 0, 0, .null, [])) (y_s := (5, [some (.int _)], [.int _], _)) rfl (u_ rfl) ?_
          refine w_t (pc := 5) (e_s := (0, 2, 0, 0, 0, .int 6, [])) (y_s := (7, [some (.int _)], [.int _, .int _], _)) rfl (u_ rfl) ?_
          refine wi3 (pc := 7) (len_s := 3) (Y := 6) rfl rfl (by decide) (fun c5_s => ?_) (fun c5_s => ?_)
          · replace t_s := t_s.1 c5_s
            refine w_t (pc := 10) (e_s := (0, 1, 0, 0, 0, .int 1, [])) (y_s := (11, [some (.int _)], [.int _], _)) rfl (u_ rfl) ?_
            refine w_t (pc := 11) (e_s := (17, 3, 15, 0, 0, .null, [])) (y_s := (15, [some (.int _)], [.int _], _)) rfl (u_ rfl) ?_
            refine wrI (pc := 15) (len_s := 1) rfl hk ?_
            show wF _ 136 (21, [some (.int _)], [.int _], _) _
            refine w_t (pc := 21) (e_s := (15, 3, 28, 0, 0, .null, [])) (y_s := (24, [some (.int _)], [], _)) rfl (u_ rfl) ?_
            refine w_t (pc := 24) (e_s := (0, 1, 0, 0, 0, .int 1, [])) (y_s := (25, [some (.int _)], [.int _], _)) rfl (u_ rfl) ?_
            refine w_t (pc := 25) (e_s := (17, 3, 29, 0, 0, .null, [])) (y_s := (29, [some (.int _)], [.int _], _)) rfl (u_ rfl) ?_
            refine wrI (pc := 29) (len_s := 1) rfl hk ?_
            show wF _ 111 (4, [some (.ref _), some (.int _), some (.int _), some (.int _), none, none, none, none, none], [.int _], _) _
            refine w_t (pc := 4) (e_s := (15, 3, 27, 0, 0, .null, [])) (y_s := (7, [some (.ref _), some (.int _), some (.int _), some (.int _), none, none, none, none, none], [], _)) rfl (u_ rfl) ?_
            refine w_t (pc := 7) (e_s := (3, 1, 0, 0, 0, .null, [])) (y_s := (8, [some (.ref _), some (.int _), some (.int _), some (.int _), none, none, none, none, none], [.ref _], _)) rfl (u_ rfl) ?_
            refine w20r (pc := 8) (len_s := 3) (q_s := 7) rfl (krq hk rfl) ?_
            refine w_t (pc := 11) (e_s := (1, 1, 2, 0, 0, .null, [])) (y_s := (12, [some (.ref _), some (.int _), some (.int _), some (.int _), none, none, none, none, none], [.int _, .ref _], _)) rfl (u_ rfl) ?_
            refine wcI (pc := 12) (len_s := 3) rfl rfl (l := [some (.ref _), some (.int _)]) rfl ?_
            refine w_t (pc := 0) (e_s := (1, 1, 1, 0, 0, .null, [])) (y_s := (1, [some (.ref _), some (.int _)], [.int _], _)) rfl (u_ rfl) ?_
            refine wq2 (pc := 1) (len_s := 3) rfl rfl (fun c6_s => ?_) (fun c6_s => ?_)
            · replace t_s := t_s.1 c6_s
              refine w_t (pc := 16) (e_s := (0, 1, 0, 0, 0, .int 0, [])) (y_s := (17, [some (.ref _), some (.int _)], [.int _], _)) rfl (u_ rfl) ?_
              refine wrI (pc := 17) (len_s := 1) rfl hk ?_
              show wF _ 111 (15, [some (.ref _), some (.int _), some (.int _), some (.int _), none, none, none, none, none], [.int _], _) _
              refine w_t (pc := 15) (e_s := (15, 3, 27, 0, 0, .null, [])) (y_s := (27, [some (.ref _), some (.int _), some (.int _), some (.int _), none, none, none, none, none], [], _)) rfl (u_ rfl) ?_
              refine w_t (pc := 27) (e_s := (0, 1, 0, 0, 0, .int (-1), [])) (y_s := (28, [some (.ref _), some (.int _), some (.int _), some (.int _), none, none, none, none, none], [.int _], _)) rfl (u_ rfl) ?_
              exact wrI (pc := 28) (len_s := 1) rfl hk t_s
            · replace t_s := t_s.2 c6_s
              refine w_t (pc := 4) (e_s := (1, 1, 1, 0, 0, .null, [])) (y_s := (5, [some (.ref _), some (.int _)], [.int _], _)) rfl (u_ rfl) ?_
              refine w_t (pc := 5) (e_s := (3, 1, 0, 0, 0, .null, [])) (y_s := (6, [some (.ref _), some (.int _)], [.ref _, .int _], _)) rfl (u_ rfl) ?_
              refine w20 (pc := 6) (len_s := 3) rfl ?_
              refine wi3 (pc := 9) (len_s := 3) rfl rfl rfl (fun c7_s => ?_) (fun c7_s => ?_)
              · replace t_s := t_s.1 c7_s
                refine w_t (pc := 12) (e_s := (0, 1, 0, 0, 0, .int 1, [])) (y_s := (13, [some (.ref _), some (.int _)], [.int _], _)) rfl (u_ rfl) ?_
                refine w_t (pc := 13) (e_s := (17, 3, 17, 0, 0, .null, [])) (y_s := (17, [some (.ref _), some (.int _)], [.int _], _)) rfl (u_ rfl) ?_
                refine wrI (pc := 17) (len_s := 1) rfl hk ?_
                show wF _ 111 (15, [some (.ref _), some (.int _), some (.int _), some (.int _), none, none, none, none, none], [.int _], _) _
                refine w_t (pc := 15) (e_s := (15, 3, 27, 0, 0, .null, [])) (y_s := (18, [some (.ref _), some (.int _), some (.int _), some (.int _), none, none, none, none, none], [], _)) rfl (u_ rfl) ?_
                refine w_t (pc := 18) (e_s := (1, 1, 3, 0, 0, .null, [])) (y_s := (19, [some (.ref _), some (.int _), some (.int _), some (.int _), none, none, none, none, none], [.int _], _)) rfl (u_ rfl) ?_
                refine wq2 (pc := 19) (len_s := 3) rfl rfl (fun c8_s => ?_) (fun c8_s => ?_)
                · replace t_s := t_s.1 c8_s
                  refine w_t (pc := 27) (e_s := (0, 1, 0, 0, 0, .int (-1), [])) (y_s := (28, [some (.ref _), some (.int _), some (.int _), some (.int _), none, none, none, none, none], [.int _], _)) rfl (u_ rfl) ?_
                  exact wrI (pc := 28) (len_s := 1) rfl hk t_s
                · replace t_s := t_s.2 c8_s
                  refine w_t (pc := 22) (e_s := (1, 1, 3, 0, 0, .null, [])) (y_s := (23, [some (.ref _), some (.int _), some (.int _), some (.int _), none, none, none, none, none], [.int _], _)) rfl (u_ rfl) ?_
                  refine w_t (pc := 23) (e_s := (0, 1, 0, 0, 0, .int 1, [])) (y_s := (24, [some (.ref _), some (.int _), some (.int _), some (.int _), none, none, none, none, none], [.int _, .int _], _)) rfl (u_ rfl) ?_
                  refine wi5 (pc := 24) (len_s := 3) (Y := 1) rfl rfl (by decide) (fun c9_s => ?_) (fun c9_s => ?_)
                  · replace t_s := t_s.1 c9_s
                    refine w_t (pc := 27) (e_s := (0, 1, 0, 0, 0, .int (-1), [])) (y_s := (28, [some (.ref _), some (.int _), some (.int _), some (.int _), none, none, none, none, none], [.int _], _)) rfl (u_ rfl) ?_
                    exact wrI (pc := 28) (len_s := 1) rfl hk t_s
                  · replace t_s := t_s.2 c9_s
                    refine w_t (pc := 29) (e_s := (3, 1, 0, 0, 0, .null, [])) (y_s := (30, [some (.ref _), some (.int _), some (.int _), some (.int _), none, none, none, none, none], [.ref _], _)) rfl (u_ rfl) ?_
                    refine w_t (pc := 30) (e_s := (1, 1, 1, 0, 0, .null, [])) (y_s := (31, [some (.ref _), some (.int _), some (.int _), some (.int _), none, none, none, none, none], [.int _, .ref _], _)) rfl (u_ rfl) ?_
                    refine wcI (pc := 31) (len_s := 3) rfl rfl (l := [some (.ref _), some (.int _), none]) rfl ?_
                    refine w_t (pc := 0) (e_s := (3, 1, 0, 0, 0, .null, [])) (y_s := (1, [some (.ref _), some (.int _), none], [.ref _], _)) rfl (u_ rfl) ?_
                    refine w20r (pc := 1) (len_s := 3) (q_s := 71) rfl (krq hk rfl) ?_
                    refine w_t (pc := 4) (e_s := (1, 1, 1, 0, 0, .null, [])) (y_s := (5, [some (.ref _), some (.int _), none], [.int _, .ref _], _)) rfl (u_ rfl) ?_
                    refine w_t (pc := 5) (e_s := (0, 2, 0, 0, 0, .int 10, [])) (y_s := (7, [some (.ref _), some (.int _), none], [.int _, .int _, .ref _], _)) rfl (u_ rfl) ?_
                    refine w8 (pc := 7) (len_s := 1) rfl ?_
                    refine w24 (g_s := fun j_ => 76 + 2 * j_) (pc := 8) (len_s := 1) hk rfl (hk.1 71 4 6 rfl rfl) kg71 (fun c10_s => ?_)
                    replace t_s := t_s c10_s
                    refine wcI (pc := 9) (len_s := 3) rfl rfl (l := [some (.ref _)]) rfl (wmI t_s (fun v11 h11 hk t_s => ?_))
                    replace t_s := t_s hk
                    refine w_t (pc := 12) (e_s := (4, 1, 2, 0, 0, .null, [])) (y_s := (13, [some (.ref _), some (.int _), some (.int _)], [], _)) rfl (u_ rfl) ?_
                    refine w_t (pc := 13) (e_s := (1, 1, 2, 0, 0, .null, [])) (y_s := (14, [some (.ref _), some (.int _), some (.int _)], [.int _], _)) rfl (u_ rfl) ?_
                    refine wq0 (pc := 14) (len_s := 3) rfl rfl (fun c12_s => ?_) (fun c12_s => ?_)
                    · replace t_s := t_s.1 c12_s
                      refine w_t (pc := 21) (e_s := (3, 1, 0, 0, 0, .null, [])) (y_s := (22, [some (.ref _), some (.int _), some (.int _)], [.ref _], _)) rfl (u_ rfl) ?_
                      refine w20r (pc := 22) (len_s := 3) (q_s := 71) rfl (krq hk rfl) ?_
                      refine w_t (pc := 25) (e_s := (1, 1, 1, 0, 0, .null, [])) (y_s := (26, [some (.ref _), some (.int _), some (.int _)], [.int _, .ref _], _)) rfl (u_ rfl) ?_
                      refine w_t (pc := 26) (e_s := (0, 2, 0, 0, 0, .int 10, [])) (y_s := (28, [some (.ref _), some (.int _), some (.int _)], [.int _, .int _, .ref _], _)) rfl (u_ rfl) ?_
                      refine w8m (pc := 28) (len_s := 1) rfl ?_
                      refine w24 (g_s := fun j_ => 76 + 2 * j_) (pc := 29) (len_s := 1) hk rfl (hk.1 71 4 6 rfl rfl) kg71 (fun c13_s => ?_)
                      replace t_s := t_s c13_s
                      refine wcI (pc := 30) (len_s := 3) rfl rfl (l := [some (.ref _)]) rfl (wmI t_s (fun v14 h14 hk t_s => ?_))
                      replace t_s := t_s hk
                      refine wrI (pc := 33) (len_s := 1) rfl hk ?_
                      show wF _ 111 (34, [some (.ref _), some (.int _), some (.int _), some (.int _), none, none, none, none, none], [.int _], _) _
                      refine w_t (pc := 34) (e_s := (4, 2, 4, 0, 0, .null, [])) (y_s := (36, [some (.ref _), some (.int _), some (.int _), some (.int _), some (.int _), none, none, none, none], [], _)) rfl (u_ rfl) ?_
                      refine w_t (pc := 36) (e_s := (1, 2, 4, 0, 0, .null, [])) (y_s := (38, [some (.ref _), some (.int _), some (.int _), some (.int _), some (.int _), none, none, none, none], [.int _], _)) rfl (u_ rfl) ?_
                      refine wq0 (pc := 38) (len_s := 3) rfl rfl (fun c15_s => ?_) (fun c15_s => ?_)
                      · replace t_s := t_s.1 c15_s
                        refine w_t (pc := 44) (e_s := (3, 1, 0, 0, 0, .null, [])) (y_s := (45, [some (.ref _), some (.int _), some (.int _), some (.int _), some (.int _), none, none, none, none], [.ref _], _)) rfl (u_ rfl) ?_
                        refine w20r (pc := 45) (len_s := 3) (q_s := 50) rfl (krq hk rfl) ?_
                        refine w_t (pc := 48) (e_s := (3, 1, 0, 0, 0, .null, [])) (y_s := (49, [some (.ref _), some (.int _), some (.int _), some (.int _), some (.int _), none, none, none, none], [.ref _, .ref _], _)) rfl (u_ rfl) ?_
                        refine w20r (pc := 49) (len_s := 3) (q_s := 71) rfl (krq hk rfl) ?_
                        refine w_t (pc := 52) (e_s := (1, 1, 1, 0, 0, .null, [])) (y_s := (53, [some (.ref _), some (.int _), some (.int _), some (.int _), some (.int _), none, none, none, none], [.int _, .ref _, .ref _], _)) rfl (u_ rfl) ?_
                        refine w_t (pc := 53) (e_s := (0, 2, 0, 0, 0, .int 10, [])) (y_s := (55, [some (.ref _), some (.int _), some (.int _), some (.int _), some (.int _), none, none, none, none], [.int _, .int _, .ref _, .ref _], _)) rfl (u_ rfl) ?_
                        refine w8 (pc := 55) (len_s := 1) rfl ?_
                        refine w24 (g_s := fun j_ => 76 + 2 * j_) (pc := 56) (len_s := 1) hk rfl (hk.1 71 4 6 rfl rfl) kg71 (fun c16 => ?_)
                        refine w_t (pc := 57) (e_s := (3, 1, 0, 0, 0, .null, [])) (y_s := (58, [some (.ref _), some (.int _), some (.int _), some (.int _), some (.int _), none, none, none, none], [.ref _, .ref _, .ref _], _)) rfl (u_ rfl) ?_
                        refine w20r (pc := 58) (len_s := 3) (q_s := 7) rfl (krq hk rfl) ?_
                        refine w20 (pc := 61) (len_s := 3) rfl ?_
                        refine wcV (pc := 64) (len_s := 3) rfl rfl (l := [some (.ref _), some (.ref _), some (.int _), none, none, none]) rfl (wmV t_s (fun h17 hk t_s => ?_))
                        replace t_s := t_s hk
                        refine w_t (pc := 67) (e_s := (1, 1, 3, 0, 0, .null, [])) (y_s := (68, [some (.ref _), some (.int _), some (.int _), some (.int _), some (.int _), none, none, none, none], [.int _], _)) rfl (u_ rfl) ?_
                        refine wq1 (pc := 68) (len_s := 3) rfl rfl (fun c18_s => ?_) (fun c18_s => ?_)
                        · replace t_s := t_s.1 c18_s
                          refine w_t (pc := 71) (e_s := (0, 1, 0, 0, 0, .int 3, [])) (y_s := (72, [some (.ref _), some (.int _), some (.int _), some (.int _), some (.int _), none, none, none, none], [.int _], _)) rfl (u_ rfl) ?_
                          refine w_t (pc := 72) (e_s := (17, 3, 76, 0, 0, .null, [])) (y_s := (76, [some (.ref _), some (.int _), some (.int _), some (.int _), some (.int _), none, none, none, none], [.int _], _)) rfl (u_ rfl) ?_
                          refine w_t (pc := 76) (e_s := (4, 2, 5, 0, 0, .null, [])) (y_s := (78, [some (.ref _), some (.int _), some (.int _), some (.int _), some (.int _), some (.int _), none, none, none], [], _)) rfl (u_ rfl) ?_
                          refine w_t (pc := 78) (e_s := (0, 1, 0, 0, 0, .int 0, [])) (y_s := (79, [some (.ref _), some (.int _), some (.int _), some (.int _), some (.int _), some (.int _), none, none, none], [.int _], _)) rfl (u_ rfl) ?_
                          refine w_t (pc := 79) (e_s := (4, 2, 6, 0, 0, .null, [])) (y_s := (81, [some (.ref _), some (.int _), some (.int _), some (.int _), some (.int _), some (.int _), some (.int _), none, none], [], _)) rfl (u_ rfl) ?_
                          refine w_t (pc := 81) (e_s := (0, 1, 0, 0, 0, .int 0, [])) (y_s := (82, [some (.ref _), some (.int _), some (.int _), some (.int _), some (.int _), some (.int _), some (.int _), none, none], [.int _], _)) rfl (u_ rfl) ?_
                          refine w_t (pc := 82) (e_s := (4, 2, 7, 0, 0, .null, [])) (y_s := (84, [some (.ref _), some (.int _), some (.int _), some (.int _), some (.int _), some (.int _), some (.int _), some (.int _), none], [], _)) rfl (u_ rfl) ?_
                          exact t_s
                        · replace t_s := t_s.2 c18_s
                          refine w_t (pc := 75) (e_s := (0, 1, 0, 0, 0, .int 5, [])) (y_s := (76, [some (.ref _), some (.int _), some (.int _), some (.int _), some (.int _), none, none, none, none], [.int _], _)) rfl (u_ rfl) ?_
                          refine w_t (pc := 76) (e_s := (4, 2, 5, 0, 0, .null, [])) (y_s := (78, [some (.ref _), some (.int _), some (.int _), some (.int _), some (.int _), some (.int _), none, none, none], [], _)) rfl (u_ rfl) ?_
                          refine w_t (pc := 78) (e_s := (0, 1, 0, 0, 0, .int 0, [])) (y_s := (79, [some (.ref _), some (.int _), some (.int _), some (.int _), some (.int _), some (.int _), none, none, none], [.int _], _)) rfl (u_ rfl) ?_
                          refine w_t (pc := 79) (e_s := (4, 2, 6, 0, 0, .null, [])) (y_s := (81, [some (.ref _), some (.int _), some (.int _), some (.int _), some (.int _), some (.int _), some (.int _), none, none], [], _)) rfl (u_ rfl) ?_
                          refine w_t (pc := 81) (e_s := (0, 1, 0, 0, 0, .int 0, [])) (y_s := (82, [some (.ref _), some (.int _), some (.int _), some (.int _), some (.int _), some (.int _), some (.int _), none, none], [.int _], _)) rfl (u_ rfl) ?_
                          refine w_t (pc := 82) (e_s := (4, 2, 7, 0, 0, .null, [])) (y_s := (84, [some (.ref _), some (.int _), some (.int _), some (.int _), some (.int _), some (.int _), some (.int _), some (.int _), none], [], _)) rfl (u_ rfl) ?_
                          exact t_s
                      · replace t_s := t_s.2 c15_s
                        refine w_t (pc := 41) (e_s := (1, 2, 4, 0, 0, .null, [])) (y_s := (43, [some (.ref _), some (.int _), some (.int _), some (.int _), some (.int _), none, none, none, none], [.int _], _)) rfl (u_ rfl) ?_
                        exact wrI (pc := 43) (len_s := 1) rfl hk t_s
                    · replace t_s := t_s.2 c12_s
                      refine w_t (pc := 17) (e_s := (1, 1, 2, 0, 0, .null, [])) (y_s := (18, [some (.ref _), some (.int _), some (.int _)], [.int _], _)) rfl (u_ rfl) ?_
                      refine w_t (pc := 18) (e_s := (17, 3, 33, 0, 0, .null, [])) (y_s := (33, [some (.ref _), some (.int _), some (.int _)], [.int _], _)) rfl (u_ rfl) ?_
                      refine wrI (pc := 33) (len_s := 1) rfl hk ?_
                      show wF _ 111 (34, [some (.ref _), some (.int _), some (.int _), some (.int _), none, none, none, none, none], [.int _], _) _
                      refine w_t (pc := 34) (e_s := (4, 2, 4, 0, 0, .null, [])) (y_s := (36, [some (.ref _), some (.int _), some (.int _), some (.int _), some (.int _), none, none, none, none], [], _)) rfl (u_ rfl) ?_
                      refine w_t (pc := 36) (e_s := (1, 2, 4, 0, 0, .null, [])) (y_s := (38, [some (.ref _), some (.int _), some (.int _), some (.int _), some (.int _), none, none, none, none], [.int _], _)) rfl (u_ rfl) ?_
                      refine wq0 (pc := 38) (len_s := 3) rfl rfl (fun c19_s => ?_) (fun c19_s => ?_)
                      · exact absurd c19_s c12_s
                      · skip
                        refine w_t (pc := 41) (e_s := (1, 2, 4, 0, 0, .null, [])) (y_s := (43, [some (.ref _), some (.int _), some (.int _), some (.int _), some (.int _), none, none, none, none], [.int _], _)) rfl (u_ rfl) ?_
                        exact wrI (pc := 43) (len_s := 1) rfl hk t_s
              · replace t_s := t_s.2 c7_s
                refine w_t (pc := 16) (e_s := (0, 1, 0, 0, 0, .int 0, [])) (y_s := (17, [some (.ref _), some (.int _)], [.int _], _)) rfl (u_ rfl) ?_
                refine wrI (pc := 17) (len_s := 1) rfl hk ?_
                show wF _ 111 (15, [some (.ref _), some (.int _), some (.int _), some (.int _), none, none, none, none, none], [.int _], _) _
                refine w_t (pc := 15) (e_s := (15, 3, 27, 0, 0, .null, [])) (y_s := (27, [some (.ref _), some (.int _), some (.int _), some (.int _), none, none, none, none, none], [], _)) rfl (u_ rfl) ?_
                refine w_t (pc := 27) (e_s := (0, 1, 0, 0, 0, .int (-1), [])) (y_s := (28, [some (.ref _), some (.int _), some (.int _), some (.int _), none, none, none, none, none], [.int _], _)) rfl (u_ rfl) ?_
                exact wrI (pc := 28) (len_s := 1) rfl hk t_s
          · replace t_s := t_s.2 c5_s
            refine w_t (pc := 14) (e_s := (0, 1, 0, 0, 0, .int 0, [])) (y_s := (15, [some (.int _)], [.int _], _)) rfl (u_ rfl) ?_
            refine wrI (pc := 15) (len_s := 1) rfl hk ?_
            show wF _ 136 (21, [some (.int _)], [.int _], _) _
            refine w_t (pc := 21) (e_s := (15, 3, 28, 0, 0, .null, [])) (y_s := (28, [some (.int _)], [], _)) rfl (u_ rfl) ?_
            refine w_t (pc := 28) (e_s := (0, 1, 0, 0, 0, .int 0, [])) (y_s := (29, [some (.int _)], [.int _], _)) rfl (u_ rfl) ?_
            refine wrI (pc := 29) (len_s := 1) rfl hk ?_
            show wF _ 111 (4, [some (.ref _), some (.int _), some (.int _), some (.int _), none, none, none, none, none], [.int _], _) _
            refine w_t (pc := 4) (e_s := (15, 3, 27, 0, 0, .null, [])) (y_s := (27, [some (.ref _), some (.int _), some (.int _), some (.int _), none, none, none, none, none], [], _)) rfl (u_ rfl) ?_
            refine w_t (pc := 27) (e_s := (0, 1, 0, 0, 0, .int (-1), [])) (y_s := (28, [some (.ref _), some (.int _), some (.int _), some (.int _), none, none, none, none, none], [.int _], _)) rfl (u_ rfl) ?_
            exact wrI (pc := 28) (len_s := 1) rfl hk t_s
      · replace t_s := t_s.2 c3_s
        refine w_t (pc := 14) (e_s := (0, 1, 0, 0, 0, .int 0, [])) (y_s := (15, [some (.int _)], [.int _], _)) rfl (u_ rfl) ?_
        refine wrI (pc := 15) (len_s := 1) rfl hk ?_
        show wF _ 136 (11, [some (.int _)], [.int _], _) _
        refine w_t (pc := 11) (e_s := (15, 3, 28, 0, 0, .null, [])) (y_s := (28, [some (.int _)], [], _)) rfl (u_ rfl) ?_
        refine w_t (pc := 28) (e_s := (0, 1, 0, 0, 0, .int 0, [])) (y_s := (29, [some (.int _)], [.int _], _)) rfl (u_ rfl) ?_
        refine wrI (pc := 29) (len_s := 1) rfl hk ?_
        show wF _ 111 (4, [some (.ref _), some (.int _), some (.int _), some (.int _), none, none, none, none, none], [.int _], _) _
        refine w_t (pc := 4) (e_s := (15, 3, 27, 0, 0, .null, [])) (y_s := (27, [some (.ref _), some (.int _), some (.int _), some (.int _), none, none, none, none, none], [], _)) rfl (u_ rfl) ?_
        refine w_t (pc := 27) (e_s := (0, 1, 0, 0, 0, .int (-1), [])) (y_s := (28, [some (.ref _), some (.int _), some (.int _), some (.int _), none, none, none, none, none], [.int _], _)) rfl (u_ rfl) ?_
        exact wrI (pc := 28) (len_s := 1) rfl hk t_s
/-- ColdShod.edge(III)I, from 84 on -/
theorem sg_111_84 {F_s : Nat} {x1_s x2_s x3 x4_s x5_s x6 x7 : Int32} {l8 : Option Value} {h_s : zH} {K_s : Int32 → zH → Prop} (hk : hKn h_s) (t_s : (x5_s.toInt < x7.toInt → K_s x6 h_s) ∧ (¬ x5_s.toInt < x7.toInt → wF F_s 139 (0, [some (.ref 6), some (.int x2_s)], [], h_s) (gR (fun v2 h2 => hKn h2 → (x3.toInt = 0 → (zix (x1_s - x1_s / 10 * 10) < 6 → wF F_s 51 (0, [some (.ref 50), some (.ref v2), some (.ref (76 + 2 * (zix (x1_s - x1_s / 10 * 10)))), some (.ref 7), none, none], [], (h2.1, zup h2.2.1 v2 0 x7, h2.2.2.1, h2.2.2.2)) (gI (fun v5 h5 => hKn h5 → (v5.toInt = -2 → wF F_s 111 (84, [some (.ref 6), some (.int x1_s), some (.int x2_s), some (.int x3), some (.int x4_s), some (.int x5_s), some (.int (x6 ||| (1 <<< (x7 &&& 31)))), some (.int (x7 + 1)), some (.ref v2)], [], h5) (gI K_s)) ∧ (¬ v5.toInt = -2 → wF F_s 111 (84, [some (.ref 6), some (.int x1_s), some (.int x2_s), some (.int x3), some (.int x4_s), some (.int x5_s), some (.int x6), some (.int (x7 + 1)), some (.ref v2)], [], h5) (gI K_s)))))) ∧ (¬ x3.toInt = 0 → (zix (x1_s - x1_s / 10 * 10) < 6 → wF F_s 51 (0, [some (.ref 50), some (.ref v2), some (.ref (76 + 2 * (zix (x1_s - x1_s / 10 * 10)))), some (.ref 7), none, none], [], (h2.1, zup h2.2.1 v2 1 x7, h2.2.2.1, h2.2.2.2)) (gI (fun v8 h8 => hKn h8 → (v8.toInt = -2 → wF F_s 111 (84, [some (.ref 6), some (.int x1_s), some (.int x2_s), some (.int x3), some (.int x4_s), some (.int x5_s), some (.int (x6 ||| (1 <<< (x7 &&& 31)))), some (.int (x7 + 1)), some (.ref v2)], [], h8) (gI K_s)) ∧ (¬ v8.toInt = -2 → wF F_s 111 (84, [some (.ref 6), some (.int x1_s), some (.int x2_s), some (.int x3), some (.int x4_s), some (.int x5_s), some (.int x6), some (.int (x7 + 1)), some (.ref v2)], [], h8) (gI K_s)))))))))) : wF (F_s + 1) 111 (84, [some (.ref 6), some (.int x1_s), some (.int x2_s), some (.int x3), some (.int x4_s), some (.int x5_s), some (.int x6), some (.int x7), l8], [], h_s) (gI K_s) := by
  refine w_0 (pc := 84) (e_s := (1, 2, 7, 0, 0, .null, [])) (y_s := (86, [some (.ref _), some (.int _), some (.int _), some (.int _), some (.int _), some (.int _), some (.int _), some (.int _), _], [.int _], _)) rfl (u_ rfl) ?_
  refine w_t (pc := 86) (e_s := (1, 2, 5, 0, 0, .null, [])) (y_s := (88, [some (.ref _), some (.int _), some (.int _), some (.int _), some (.int _), some (.int _), some (.int _), some (.int _), _], [.int _, .int _], _)) rfl (u_ rfl) ?_
  refine wi4 (pc := 88) (len_s := 3) rfl rfl rfl (fun c1_s => ?_) (fun c1_s => ?_)
  · replace t_s := t_s.1 c1_s
    refine w_t (pc := 161) (e_s := (1, 2, 6, 0, 0, .null, [])) (y_s := (163, [some (.ref _), some (.int _), some (.int _), some (.int _), some (.int _), some (.int _), some (.int _), some (.int _), _], [.int _], _)) rfl (u_ rfl) ?_
    exact wrI (pc := 163) (len_s := 1) rfl hk t_s
  · replace t_s := t_s.2 c1_s
    refine w_t (pc := 91) (e_s := (3, 1, 0, 0, 0, .null, [])) (y_s := (92, [some (.ref _), some (.int _), some (.int _), some (.int _), some (.int _), some (.int _), some (.int _), some (.int _), _], [.ref _], _)) rfl (u_ rfl) ?_
    refine w_t (pc := 92) (e_s := (1, 1, 2, 0, 0, .null, [])) (y_s := (93, [some (.ref _), some (.int _), some (.int _), some (.int _), some (.int _), some (.int _), some (.int _), some (.int _), _], [.int _, .ref _], _)) rfl (u_ rfl) ?_
    refine wcR (pc := 93) (len_s := 3) rfl rfl (l := [some (.ref _), some (.int _)]) rfl (wmR t_s (fun v2 h2 hk t_s => ?_))
    replace t_s := t_s hk
    refine w_t (pc := 96) (e_s := (6, 2, 8, 0, 0, .null, [])) (y_s := (98, [some (.ref _), some (.int _), some (.int _), some (.int _), some (.int _), some (.int _), some (.int _), some (.int _), some (.ref _)], [], _)) rfl (u_ rfl) ?_
    refine w_t (pc := 98) (e_s := (1, 1, 3, 0, 0, .null, [])) (y_s := (99, [some (.ref _), some (.int _), some (.int _), some (.int _), some (.int _), some (.int _), some (.int _), some (.int _), some (.ref _)], [.int _], _)) rfl (u_ rfl) ?_
    refine wq1 (pc := 99) (len_s := 3) rfl rfl (fun c3_s => ?_) (fun c3_s => ?_)
    · replace t_s := t_s.1 c3_s
      refine w_t (pc := 102) (e_s := (3, 2, 8, 0, 0, .null, [])) (y_s := (104, [some (.ref _), some (.int _), some (.int _), some (.int _), some (.int _), some (.int _), some (.int _), some (.int _), some (.ref _)], [.ref _], _)) rfl (u_ rfl) ?_
      refine w_t (pc := 104) (e_s := (1, 2, 7, 0, 0, .null, [])) (y_s := (106, [some (.ref _), some (.int _), some (.int _), some (.int _), some (.int _), some (.int _), some (.int _), some (.int _), some (.ref _)], [.int _, .ref _], _)) rfl (u_ rfl) ?_
      refine w21 (pc := 106) (len_s := 3) rfl ?_
      refine w_t (pc := 109) (e_s := (17, 3, 119, 0, 0, .null, [])) (y_s := (119, [some (.ref _), some (.int _), some (.int _), some (.int _), some (.int _), some (.int _), some (.int _), some (.int _), some (.ref _)], [], _)) rfl (u_ rfl) ?_
      refine w_t (pc := 119) (e_s := (3, 1, 0, 0, 0, .null, [])) (y_s := (120, [some (.ref _), some (.int _), some (.int _), some (.int _), some (.int _), some (.int _), some (.int _), some (.int _), some (.ref _)], [.ref _], _)) rfl (u_ rfl) ?_
      refine w20r (pc := 120) (len_s := 3) (q_s := 50) rfl (krq hk rfl) ?_
      refine w_t (pc := 123) (e_s := (3, 2, 8, 0, 0, .null, [])) (y_s := (125, [some (.ref _), some (.int _), some (.int _), some (.int _), some (.int _), some (.int _), some (.int _), some (.int _), some (.ref _)], [.ref _, .ref _], _)) rfl (u_ rfl) ?_
      refine w_t (pc := 125) (e_s := (3, 1, 0, 0, 0, .null, [])) (y_s := (126, [some (.ref _), some (.int _), some (.int _), some (.int _), some (.int _), some (.int _), some (.int _), some (.int _), some (.ref _)], [.ref _, .ref _, .ref _], _)) rfl (u_ rfl) ?_
      refine w20r (pc := 126) (len_s := 3) (q_s := 71) rfl (krq hk rfl) ?_
      refine w_t (pc := 129) (e_s := (1, 1, 1, 0, 0, .null, [])) (y_s := (130, [some (.ref _), some (.int _), some (.int _), some (.int _), some (.int _), some (.int _), some (.int _), some (.int _), some (.ref _)], [.int _, .ref _, .ref _, .ref _], _)) rfl (u_ rfl) ?_
      refine w_t (pc := 130) (e_s := (0, 2, 0, 0, 0, .int 10, [])) (y_s := (132, [some (.ref _), some (.int _), some (.int _), some (.int _), some (.int _), some (.int _), some (.int _), some (.int _), some (.ref _)], [.int _, .int _, .ref _, .ref _, .ref _], _)) rfl (u_ rfl) ?_
      refine w8m (pc := 132) (len_s := 1) rfl ?_
      refine w24 (g_s := fun j_ => 76 + 2 * j_) (pc := 133) (len_s := 1) hk rfl (hk.1 71 4 6 rfl rfl) kg71 (fun c4_s => ?_)
      replace t_s := t_s c4_s
      refine w_t (pc := 134) (e_s := (3, 1, 0, 0, 0, .null, [])) (y_s := (135, [some (.ref _), some (.int _), some (.int _), some (.int _), some (.int _), some (.int _), some (.int _), some (.int _), some (.ref _)], [.ref _, .ref _, .ref _, .ref _], _)) rfl (u_ rfl) ?_
      refine w20r (pc := 135) (len_s := 3) (q_s := 7) rfl (krq hk rfl) ?_
      refine wcI (pc := 138) (len_s := 3) rfl rfl (l := [some (.ref _), some (.ref _), some (.ref _), some (.ref _), none, none]) rfl (wmI t_s (fun v5 h5 hk t_s => ?_))
      replace t_s := t_s hk
      refine w_t (pc := 141) (e_s := (0, 2, 0, 0, 0, .int (-2), [])) (y_s := (143, [some (.ref _), some (.int _), some (.int _), some (.int _), some (.int _), some (.int _), some (.int _), some (.int _), some (.ref _)], [.int _, .int _], _)) rfl (u_ rfl) ?_
      refine wi1 (pc := 143) (len_s := 3) (Y := -2) rfl rfl (by decide) (fun c6_s => ?_) (fun c6_s => ?_)
      · replace t_s := t_s.1 c6_s
        refine w_t (pc := 146) (e_s := (1, 2, 6, 0, 0, .null, [])) (y_s := (148, [some (.ref _), some (.int _), some (.int _), some (.int _), some (.int _), some (.int _), some (.int _), some (.int _), some (.ref _)], [.int _], _)) rfl (u_ rfl) ?_
        refine w_t (pc := 148) (e_s := (0, 1, 0, 0, 0, .int 1, [])) (y_s := (149, [some (.ref _), some (.int _), some (.int _), some (.int _), some (.int _), some (.int _), some (.int _), some (.int _), some (.ref _)], [.int _, .int _], _)) rfl (u_ rfl) ?_
        refine w_t (pc := 149) (e_s := (1, 2, 7, 0, 0, .null, [])) (y_s := (151, [some (.ref _), some (.int _), some (.int _), some (.int _), some (.int _), some (.int _), some (.int _), some (.int _), some (.ref _)], [.int _, .int _, .int _], _)) rfl (u_ rfl) ?_
        refine w_t (pc := 151) (e_s := (7, 1, 0, 6, 0, .null, [])) (y_s := (152, [some (.ref _), some (.int _), some (.int _), some (.int _), some (.int _), some (.int _), some (.int _), some (.int _), some (.ref _)], [.int ((_ : Int32) <<< ((_ : Int32) &&& 31)), .int _], _)) rfl (u_ rfl) ?_
        refine w_t (pc := 152) (e_s := (7, 1, 0, 4, 0, .null, [])) (y_s := (153, [some (.ref _), some (.int _), some (.int _), some (.int _), some (.int _), some (.int _), some (.int _), some (.int _), some (.ref _)], [.int (_ ||| _)], _)) rfl (u_ rfl) ?_
        refine w_t (pc := 153) (e_s := (4, 2, 6, 0, 0, .null, [])) (y_s := (155, [some (.ref _), some (.int _), some (.int _), some (.int _), some (.int _), some (.int _), some (.int _), some (.int _), some (.ref _)], [], _)) rfl (u_ rfl) ?_
        refine w_t (pc := 155) (e_s := (19, 3, 7, 0, 0, .int 1, [])) (y_s := (158, [some (.ref _), some (.int _), some (.int _), some (.int _), some (.int _), some (.int _), some (.int _), some (.int _), some (.ref _)], [], _)) rfl (u_ rfl) ?_
        refine w_t (pc := 158) (e_s := (17, 3, 84, 0, 0, .null, [])) (y_s := (84, [some (.ref _), some (.int _), some (.int _), some (.int _), some (.int _), some (.int _), some (.int _), some (.int _), some (.ref _)], [], _)) rfl (u_ rfl) ?_
        exact t_s
      · replace t_s := t_s.2 c6_s
        refine w_t (pc := 155) (e_s := (19, 3, 7, 0, 0, .int 1, [])) (y_s := (158, [some (.ref _), some (.int _), some (.int _), some (.int _), some (.int _), some (.int _), some (.int _), some (.int _), some (.ref _)], [], _)) rfl (u_ rfl) ?_
        refine w_t (pc := 158) (e_s := (17, 3, 84, 0, 0, .null, [])) (y_s := (84, [some (.ref _), some (.int _), some (.int _), some (.int _), some (.int _), some (.int _), some (.int _), some (.int _), some (.ref _)], [], _)) rfl (u_ rfl) ?_
        exact t_s
    · replace t_s := t_s.2 c3_s
      refine w_t (pc := 112) (e_s := (3, 2, 8, 0, 0, .null, [])) (y_s := (114, [some (.ref _), some (.int _), some (.int _), some (.int _), some (.int _), some (.int _), some (.int _), some (.int _), some (.ref _)], [.ref _], _)) rfl (u_ rfl) ?_
      refine w_t (pc := 114) (e_s := (1, 2, 7, 0, 0, .null, [])) (y_s := (116, [some (.ref _), some (.int _), some (.int _), some (.int _), some (.int _), some (.int _), some (.int _), some (.int _), some (.ref _)], [.int _, .ref _], _)) rfl (u_ rfl) ?_
      refine w21 (pc := 116) (len_s := 3) rfl ?_
      refine w_t (pc := 119) (e_s := (3, 1, 0, 0, 0, .null, [])) (y_s := (120, [some (.ref _), some (.int _), some (.int _), some (.int _), some (.int _), some (.int _), some (.int _), some (.int _), some (.ref _)], [.ref _], _)) rfl (u_ rfl) ?_
      refine w20r (pc := 120) (len_s := 3) (q_s := 50) rfl (krq hk rfl) ?_
      refine w_t (pc := 123) (e_s := (3, 2, 8, 0, 0, .null, [])) (y_s := (125, [some (.ref _), some (.int _), some (.int _), some (.int _), some (.int _), some (.int _), some (.int _), some (.int _), some (.ref _)], [.ref _, .ref _], _)) rfl (u_ rfl) ?_
      refine w_t (pc := 125) (e_s := (3, 1, 0, 0, 0, .null, [])) (y_s := (126, [some (.ref _), some (.int _), some (.int _), some (.int _), some (.int _), some (.int _), some (.int _), some (.int _), some (.ref _)], [.ref _, .ref _, .ref _], _)) rfl (u_ rfl) ?_
      refine w20r (pc := 126) (len_s := 3) (q_s := 71) rfl (krq hk rfl) ?_
      refine w_t (pc := 129) (e_s := (1, 1, 1, 0, 0, .null, [])) (y_s := (130, [some (.ref _), some (.int _), some (.int _), some (.int _), some (.int _), some (.int _), some (.int _), some (.int _), some (.ref _)], [.int _, .ref _, .ref _, .ref _], _)) rfl (u_ rfl) ?_
      refine w_t (pc := 130) (e_s := (0, 2, 0, 0, 0, .int 10, [])) (y_s := (132, [some (.ref _), some (.int _), some (.int _), some (.int _), some (.int _), some (.int _), some (.int _), some (.int _), some (.ref _)], [.int _, .int _, .ref _, .ref _, .ref _], _)) rfl (u_ rfl) ?_
      refine w8m (pc := 132) (len_s := 1) rfl ?_
      refine w24 (g_s := fun j_ => 76 + 2 * j_) (pc := 133) (len_s := 1) hk rfl (hk.1 71 4 6 rfl rfl) kg71 (fun c7_s => ?_)
      replace t_s := t_s c7_s
      refine w_t (pc := 134) (e_s := (3, 1, 0, 0, 0, .null, [])) (y_s := (135, [some (.ref _), some (.int _), some (.int _), some (.int _), some (.int _), some (.int _), some (.int _), some (.int _), some (.ref _)], [.ref _, .ref _, .ref _, .ref _], _)) rfl (u_ rfl) ?_
      refine w20r (pc := 135) (len_s := 3) (q_s := 7) rfl (krq hk rfl) ?_
      refine wcI (pc := 138) (len_s := 3) rfl rfl (l := [some (.ref _), some (.ref _), some (.ref _), some (.ref _), none, none]) rfl (wmI t_s (fun v8 h8 hk t_s => ?_))
      replace t_s := t_s hk
      refine w_t (pc := 141) (e_s := (0, 2, 0, 0, 0, .int (-2), [])) (y_s := (143, [some (.ref _), some (.int _), some (.int _), some (.int _), some (.int _), some (.int _), some (.int _), some (.int _), some (.ref _)], [.int _, .int _], _)) rfl (u_ rfl) ?_
      refine wi1 (pc := 143) (len_s := 3) (Y := -2) rfl rfl (by decide) (fun c9_s => ?_) (fun c9_s => ?_)
      · replace t_s := t_s.1 c9_s
        refine w_t (pc := 146) (e_s := (1, 2, 6, 0, 0, .null, [])) (y_s := (148, [some (.ref _), some (.int _), some (.int _), some (.int _), some (.int _), some (.int _), some (.int _), some (.int _), some (.ref _)], [.int _], _)) rfl (u_ rfl) ?_
        refine w_t (pc := 148) (e_s := (0, 1, 0, 0, 0, .int 1, [])) (y_s := (149, [some (.ref _), some (.int _), some (.int _), some (.int _), some (.int _), some (.int _), some (.int _), some (.int _), some (.ref _)], [.int _, .int _], _)) rfl (u_ rfl) ?_
        refine w_t (pc := 149) (e_s := (1, 2, 7, 0, 0, .null, [])) (y_s := (151, [some (.ref _), some (.int _), some (.int _), some (.int _), some (.int _), some (.int _), some (.int _), some (.int _), some (.ref _)], [.int _, .int _, .int _], _)) rfl (u_ rfl) ?_
        refine w_t (pc := 151) (e_s := (7, 1, 0, 6, 0, .null, [])) (y_s := (152, [some (.ref _), some (.int _), some (.int _), some (.int _), some (.int _), some (.int _), some (.int _), some (.int _), some (.ref _)], [.int ((_ : Int32) <<< ((_ : Int32) &&& 31)), .int _], _)) rfl (u_ rfl) ?_
        refine w_t (pc := 152) (e_s := (7, 1, 0, 4, 0, .null, [])) (y_s := (153, [some (.ref _), some (.int _), some (.int _), some (.int _), some (.int _), some (.int _), some (.int _), some (.int _), some (.ref _)], [.int (_ ||| _)], _)) rfl (u_ rfl) ?_
        refine w_t (pc := 153) (e_s := (4, 2, 6, 0, 0, .null, [])) (y_s := (155, [some (.ref _), some (.int _), some (.int _), some (.int _), some (.int _), some (.int _), some (.int _), some (.int _), some (.ref _)], [], _)) rfl (u_ rfl) ?_
        refine w_t (pc := 155) (e_s := (19, 3, 7, 0, 0, .int 1, [])) (y_s := (158, [some (.ref _), some (.int _), some (.int _), some (.int _), some (.int _), some (.int _), some (.int _), some (.int _), some (.ref _)], [], _)) rfl (u_ rfl) ?_
        refine w_t (pc := 158) (e_s := (17, 3, 84, 0, 0, .null, [])) (y_s := (84, [some (.ref _), some (.int _), some (.int _), some (.int _), some (.int _), some (.int _), some (.int _), some (.int _), some (.ref _)], [], _)) rfl (u_ rfl) ?_
        exact t_s
      · replace t_s := t_s.2 c9_s
        refine w_t (pc := 155) (e_s := (19, 3, 7, 0, 0, .int 1, [])) (y_s := (158, [some (.ref _), some (.int _), some (.int _), some (.int _), some (.int _), some (.int _), some (.int _), some (.int _), some (.ref _)], [], _)) rfl (u_ rfl) ?_
        refine w_t (pc := 158) (e_s := (17, 3, 84, 0, 0, .null, [])) (y_s := (84, [some (.ref _), some (.int _), some (.int _), some (.int _), some (.int _), some (.int _), some (.int _), some (.int _), some (.ref _)], [], _)) rfl (u_ rfl) ?_
        exact t_s
/-- ColdShodModel.judge(II)I, from 0 on -/
theorem sg_205_0 {F_s : Nat} {x1_s : Int32} {x2_s : Int32} {h_s : zH} {K_s : Int32 → zH → Prop} (hk : hKn h_s) (t_s : wF F_s 203 (0, [some (.ref 102), some (.int x1_s)], [], h_s) (gI (fun v1_s h1 => hKn h1 → (v1_s.toInt = -1 → K_s (-1) h1) ∧ (¬ v1_s.toInt = -1 → ((x2_s.toInt < 0 → K_s (-1) h1) ∧ (¬ x2_s.toInt < 0 → ((((h1.2.1 102 7) - 1).toInt < x2_s.toInt → K_s (-1) h1) ∧ (¬ ((h1.2.1 102 7) - 1).toInt < x2_s.toInt → wF F_s 203 (0, [some (.ref 102), some (.int x1_s)], [], h1) (gI (fun v5 h5 => hKn h5 → (v5.toInt < 0 → wF F_s 203 (0, [some (.ref 102), some (.int x1_s)], [], h5) (gI (fun v7 h7 => hKn h7 → K_s v7 h7))) ∧ (¬ v5.toInt < 0 → wF F_s 204 (0, [some (.ref 102), some (.int x1_s), some (.int x2_s), none, none], [], h5) (gI (fun v8 h8 => hKn h8 → K_s v8 h8))))))))))))) : wF (F_s + 1) 205 (0, [some (.ref 102), some (.int x1_s), some (.int x2_s)], [], h_s) (gI K_s) := by
  refine w_0 (pc := 0) (e_s := (3, 1, 0, 0, 0, .null, [])) (y_s := (1, [some (.ref _), some (.int _), some (.int _)], [.ref _], _)) rfl (u_ rfl) ?_
  refine w_t (pc := 1) (e_s := (1, 1, 1, 0, 0, .null, [])) (y_s := (2, [some (.ref _), some (.int _), some (.int _)], [.int _, .ref _], _)) rfl (u_ rfl) ?_
  refine wcI (pc := 2) (len_s := 3) rfl rfl (l := [some (.ref _), some (.int _)]) rfl (wmI t_s (fun v1_s h1 hk t_s => ?_))
  replace t_s := t_s hk
  refine w_t (pc := 5) (e_s := (0, 1, 0, 0, 0, .int (-1), [])) (y_s := (6, [some (.ref _), some (.int _), some (.int _)], [.int _, .int _], _)) rfl (u_ rfl) ?_
  refine wi0 (pc := 6) (len_s := 3) (Y := -1) rfl rfl (by decide) (fun c2_s => ?_) (fun c2_s => ?_)
  · replace t_s := t_s.1 c2_s
    refine w_t (pc := 18) (e_s := (0, 1, 0, 0, 0, .int (-1), [])) (y_s := (19, [some (.ref _), some (.int _), some (.int _)], [.int _], _)) rfl (u_ rfl) ?_
    exact wrI (pc := 19) (len_s := 1) rfl hk t_s
  · replace t_s := t_s.2 c2_s
    refine w_t (pc := 9) (e_s := (3, 1, 0, 0, 0, .null, [])) (y_s := (10, [some (.ref _), some (.int _), some (.int _)], [.ref _], _)) rfl (u_ rfl) ?_
    refine w_t (pc := 10) (e_s := (1, 1, 2, 0, 0, .null, [])) (y_s := (11, [some (.ref _), some (.int _), some (.int _)], [.int _, .ref _], _)) rfl (u_ rfl) ?_
    refine w_t (pc := 11) (e_s := (10, 1, 0, 0, 0, .null, [])) (y_s := (12, [some (.ref _), some (.int _), some (.int _)], [.long (Int32.toInt64 _), .ref _], _)) rfl (u_ rfl) ?_
    refine wcI (pc := 12) (len_s := 3) rfl rfl (l := [some (.ref _), some (.long _), none]) rfl ?_
    refine w_t (pc := 0) (e_s := (2, 1, 1, 0, 0, .null, [])) (y_s := (1, [some (.ref _), some (.long _), none], [.long _], _)) rfl (u_ rfl) ?_
    refine w_t (pc := 1) (e_s := (0, 1, 0, 0, 0, .long 0, [])) (y_s := (2, [some (.ref _), some (.long _), none], [.long _, .long _], _)) rfl (u_ rfl) ?_
    refine w_t (pc := 2) (e_s := (3, 1, 0, 0, 0, .null, [])) (y_s := (3, [some (.ref _), some (.long _), none], [.ref _, .long _, .long _], _)) rfl (u_ rfl) ?_
    refine w20 (pc := 3) (len_s := 3) rfl ?_
    refine w_t (pc := 6) (e_s := (0, 1, 0, 0, 0, .int 1, [])) (y_s := (7, [some (.ref _), some (.long _), none], [.int _, .int _, .long _, .long _], _)) rfl (u_ rfl) ?_
    refine w_t (pc := 7) (e_s := (7, 1, 0, 1, 0, .null, [])) (y_s := (8, [some (.ref _), some (.long _), none], [.int (_ - _), .long _, .long _], _)) rfl (u_ rfl) ?_
    refine w_t (pc := 8) (e_s := (10, 1, 0, 0, 0, .null, [])) (y_s := (9, [some (.ref _), some (.long _), none], [.long (Int32.toInt64 _), .long _, .long _], _)) rfl (u_ rfl) ?_
    refine wcI (pc := 9) (len_s := 3) rfl rfl (l := [some (.long _), none, some (.long _), none, some (.long _), none]) rfl ?_
    refine w_t (pc := 0) (e_s := (2, 1, 0, 0, 0, .null, [])) (y_s := (1, [some (.long _), none, some (.long _), none, some (.long _), none], [.long _], _)) rfl (u_ rfl) ?_
    refine w_t (pc := 1) (e_s := (2, 1, 2, 0, 0, .null, [])) (y_s := (2, [some (.long _), none, some (.long _), none, some (.long _), none], [.long _, .long _], _)) rfl (u_ rfl) ?_
    refine w_t (pc := 2) (e_s := (14, 1, 0, 0, 0, .null, [])) (y_s := (3, [some (.long _), none, some (.long _), none, some (.long _), none], [.int (lg_cmp _ _)], _)) rfl (u_ rfl) ?_
    refine wl2 (pc := 3) (len_s := 3) (Y := 0) rfl (Int32.toInt_toInt64 _) (by decide) (fun c3_s => ?_) (fun c3_s => ?_)
    · replace t_s := t_s.1 c3_s
      refine w_t (pc := 17) (e_s := (0, 1, 0, 0, 0, .int 0, [])) (y_s := (18, [some (.long _), none, some (.long _), none, some (.long _), none], [.int _], _)) rfl (u_ rfl) ?_
      refine wrI (pc := 18) (len_s := 1) rfl hk ?_
      show wF _ 152 (12, [some (.ref _), some (.long _), none], [.int _], _) _
      refine wrI (pc := 12) (len_s := 1) rfl hk ?_
      show wF _ 205 (15, [some (.ref _), some (.int _), some (.int _)], [.int _], _) _
      refine w_t (pc := 15) (e_s := (15, 3, 20, 1, 0, .null, [])) (y_s := (18, [some (.ref _), some (.int _), some (.int _)], [], _)) rfl (u_ rfl) ?_
      refine w_t (pc := 18) (e_s := (0, 1, 0, 0, 0, .int (-1), [])) (y_s := (19, [some (.ref _), some (.int _), some (.int _)], [.int _], _)) rfl (u_ rfl) ?_
      exact wrI (pc := 19) (len_s := 1) rfl hk t_s
    · replace t_s := t_s.2 c3_s
      refine w_t (pc := 6) (e_s := (2, 1, 0, 0, 0, .null, [])) (y_s := (7, [some (.long _), none, some (.long _), none, some (.long _), none], [.long _], _)) rfl (u_ rfl) ?_
      refine w_t (pc := 7) (e_s := (2, 2, 4, 0, 0, .null, [])) (y_s := (9, [some (.long _), none, some (.long _), none, some (.long _), none], [.long _, .long _], _)) rfl (u_ rfl) ?_
      refine w_t (pc := 9) (e_s := (14, 1, 0, 0, 0, .null, [])) (y_s := (10, [some (.long _), none, some (.long _), none, some (.long _), none], [.int (lg_cmp _ _)], _)) rfl (u_ rfl) ?_
      refine wl4 (pc := 10) (len_s := 3) rfl (Int32.toInt_toInt64 _) (Int32.toInt_toInt64 _) (fun c4_s => ?_) (fun c4_s => ?_)
      · replace t_s := t_s.1 c4_s
        refine w_t (pc := 17) (e_s := (0, 1, 0, 0, 0, .int 0, [])) (y_s := (18, [some (.long _), none, some (.long _), none, some (.long _), none], [.int _], _)) rfl (u_ rfl) ?_
        refine wrI (pc := 18) (len_s := 1) rfl hk ?_
        show wF _ 152 (12, [some (.ref _), some (.long _), none], [.int _], _) _
        refine wrI (pc := 12) (len_s := 1) rfl hk ?_
        show wF _ 205 (15, [some (.ref _), some (.int _), some (.int _)], [.int _], _) _
        refine w_t (pc := 15) (e_s := (15, 3, 20, 1, 0, .null, [])) (y_s := (18, [some (.ref _), some (.int _), some (.int _)], [], _)) rfl (u_ rfl) ?_
        refine w_t (pc := 18) (e_s := (0, 1, 0, 0, 0, .int (-1), [])) (y_s := (19, [some (.ref _), some (.int _), some (.int _)], [.int _], _)) rfl (u_ rfl) ?_
        exact wrI (pc := 19) (len_s := 1) rfl hk t_s
      · replace t_s := t_s.2 c4_s
        refine w_t (pc := 13) (e_s := (0, 1, 0, 0, 0, .int 1, [])) (y_s := (14, [some (.long _), none, some (.long _), none, some (.long _), none], [.int _], _)) rfl (u_ rfl) ?_
        refine w_t (pc := 14) (e_s := (17, 3, 18, 0, 0, .null, [])) (y_s := (18, [some (.long _), none, some (.long _), none, some (.long _), none], [.int _], _)) rfl (u_ rfl) ?_
        refine wrI (pc := 18) (len_s := 1) rfl hk ?_
        show wF _ 152 (12, [some (.ref _), some (.long _), none], [.int _], _) _
        refine wrI (pc := 12) (len_s := 1) rfl hk ?_
        show wF _ 205 (15, [some (.ref _), some (.int _), some (.int _)], [.int _], _) _
        refine w_t (pc := 15) (e_s := (15, 3, 20, 1, 0, .null, [])) (y_s := (20, [some (.ref _), some (.int _), some (.int _)], [], _)) rfl (u_ rfl) ?_
        refine w_t (pc := 20) (e_s := (3, 1, 0, 0, 0, .null, [])) (y_s := (21, [some (.ref _), some (.int _), some (.int _)], [.ref _], _)) rfl (u_ rfl) ?_
        refine w_t (pc := 21) (e_s := (1, 1, 1, 0, 0, .null, [])) (y_s := (22, [some (.ref _), some (.int _), some (.int _)], [.int _, .ref _], _)) rfl (u_ rfl) ?_
        refine wcI (pc := 22) (len_s := 3) rfl rfl (l := [some (.ref _), some (.int _)]) rfl (wmI t_s (fun v5 h5 hk t_s => ?_))
        replace t_s := t_s hk
        refine wq3 (pc := 25) (len_s := 3) rfl rfl (fun c6_s => ?_) (fun c6_s => ?_)
        · replace t_s := t_s.1 c6_s
          refine w_t (pc := 28) (e_s := (3, 1, 0, 0, 0, .null, [])) (y_s := (29, [some (.ref _), some (.int _), some (.int _)], [.ref _], _)) rfl (u_ rfl) ?_
          refine w_t (pc := 29) (e_s := (1, 1, 1, 0, 0, .null, [])) (y_s := (30, [some (.ref _), some (.int _), some (.int _)], [.int _, .ref _], _)) rfl (u_ rfl) ?_
          refine wcI (pc := 30) (len_s := 3) rfl rfl (l := [some (.ref _), some (.int _)]) rfl (wmI t_s (fun v7 h7 hk t_s => ?_))
          replace t_s := t_s hk
          refine w_t (pc := 33) (e_s := (17, 3, 42, 0, 0, .null, [])) (y_s := (42, [some (.ref _), some (.int _), some (.int _)], [.int _], _)) rfl (u_ rfl) ?_
          exact wrI (pc := 42) (len_s := 1) rfl hk t_s
        · replace t_s := t_s.2 c6_s
          refine w_t (pc := 36) (e_s := (3, 1, 0, 0, 0, .null, [])) (y_s := (37, [some (.ref _), some (.int _), some (.int _)], [.ref _], _)) rfl (u_ rfl) ?_
          refine w_t (pc := 37) (e_s := (1, 1, 1, 0, 0, .null, [])) (y_s := (38, [some (.ref _), some (.int _), some (.int _)], [.int _, .ref _], _)) rfl (u_ rfl) ?_
          refine w_t (pc := 38) (e_s := (1, 1, 2, 0, 0, .null, [])) (y_s := (39, [some (.ref _), some (.int _), some (.int _)], [.int _, .int _, .ref _], _)) rfl (u_ rfl) ?_
          refine wcI (pc := 39) (len_s := 3) rfl rfl (l := [some (.ref _), some (.int _), some (.int _), none, none]) rfl (wmI t_s (fun v8 h8 hk t_s => ?_))
          replace t_s := t_s hk
          exact wrI (pc := 42) (len_s := 1) rfl hk t_s
/-! A JOURNEY read out of a row; the first element that tells WORN wrongly: class and reference. -/
def okK (nr : Nat) (v_s : Int64) : Prop := 0 ≤ v_s.toInt ∧ v_s.toInt < (nr : Int)
def isJ (nr : Nat) (c_s : Nat → Int64) (n_s : Int) (L_s : Nat) : Prop := L_s ≤ 20 ∧ (L_s : Int) ≤ n_s ∧ (∀ k_s, k_s < L_s → okK nr (c_s k_s)) ∧ (L_s = 20 ∨ (L_s : Int) = n_s ∨ ¬ okK nr (c_s L_s))
theorem isJ_lt {nr L_s L1 : Nat} {c_s : Nat → Int64} {n_s : Int} (h_s : isJ nr c_s n_s L_s) (h1 : isJ nr c_s n_s L1) (hl : L_s < L1) : False := by
  obtain ⟨a1_s, a2, a3, a4⟩ := h_s
  obtain ⟨b1, b2, b3, b4⟩ := h1
  rcases a4 with a_s | a_s | a_s
  · omega
  · omega
  · exact a_s (b3 L_s hl)
theorem isJ_u {nr L_s L1 : Nat} {c_s : Nat → Int64} {n_s : Int} (h_s : isJ nr c_s n_s L_s) (h1 : isJ nr c_s n_s L1) : L_s = L1 := by
  rcases Nat.lt_trichotomy L_s L1 with e_s | e_s | e_s
  · exact (isJ_lt h_s h1 e_s).elim
  · exact e_s
  · exact (isJ_lt h1 h_s e_s).elim
theorem isJ_c {nr L_s : Nat} {c_s c1_s : Nat → Int64} {n_s : Int} (e_s : ∀ k_s, k_s < 60 → c1_s k_s = c_s k_s) (h_s : isJ nr c_s n_s L_s) : isJ nr c1_s n_s L_s := by
  obtain ⟨a1_s, a2, a3, a4⟩ := h_s
  refine ⟨a1_s, a2, fun k_s hk => ?_, ?_⟩
  · rw [e_s k_s (by omega)]
    exact a3 k_s hk
  · rw [e_s L_s (by omega)]
    exact a4
section JO_s
variable {h_s : zH} {K_s : Int32 → zH → Prop} {V : zH → Prop} {nh ni nr q_s : Nat} {lw : Option (List pB)} {x1_s x2_s : Int32} {f0_s : Nat → Nat → Int32}
theorem rd48 {s_s : Nat} (hk : hKn h_s) (hs : s_s < 6) (e2_s : x2_s.toInt = (nr : Int)) (n0_s : 0 ≤ (f0_s (76 + 2 * s_s) 3).toInt) (t_s : ∀ L_s f1_s, isJ nr (h_s.2.2.1 (76 + 2 * s_s + 1)) (f0_s (76 + 2 * s_s) 3).toInt L_s → (f1_s 50 1).toInt = ((L_s : Nat) : Int) → (∀ k_s, k_s < L_s → f1_s 51 k_s = (h_s.2.2.1 (76 + 2 * s_s + 1) k_s).toInt32) → (∀ a_s k_s, ¬ (a_s = 50 ∧ k_s = 1) → ¬ a_s = 51 → f1_s a_s k_s = f0_s a_s k_s) → V (h_s.1, f1_s, h_s.2.2.1, h_s.2.2.2)) : ∀ (F_s n_s : Nat) (x3 : Int32) (l4 l5 : Option Value) (f_s : Nat → Nat → Int32), x3.toInt = (n_s : Int) → n_s ≤ 20 → (n_s : Int) ≤ (f0_s (76 + 2 * s_s) 3).toInt → (∀ k_s, k_s < n_s → okK nr (h_s.2.2.1 (76 + 2 * s_s + 1) k_s)) → (f_s 50 1).toInt = (n_s : Int) → (∀ k_s, k_s < n_s → f_s 51 k_s = (h_s.2.2.1 (76 + 2 * s_s + 1) k_s).toInt32) → (∀ a_s k_s, ¬ (a_s = 50 ∧ k_s = 1) → ¬ a_s = 51 → f_s a_s k_s = f0_s a_s k_s) → wF F_s 48 (7, [some (.ref 50), some (.ref (76 + 2 * s_s)), some (.int x2_s), some (.int x3), l4, l5], [], (h_s.1, f_s, h_s.2.2.1, h_s.2.2.2)) (gV V)
  | 0, _, _, _, _, _, _, _, _, _, _, _, _ => wF_zero
  | F_s + 1, n_s, x3, l4, l5, f_s, e3_s, hn, hl, ho, eL, es, hg => by
    have z_s := azix (i := x3) (by omega)
    have ez : zix x3 = n_s := by omega
    have e7_s : f_s (76 + 2 * s_s) 3 = f0_s (76 + 2 * s_s) 3 := hg _ _ (by omega) (by omega)
    refine sg_48_7 (h_s := (h_s.1, f_s, h_s.2.2.1, h_s.2.2.2)) hs hk ?_
    dsimp only
    rw [e7_s, ez, e3_s, e2_s]
    have fin_s : (n_s = 20 ∨ (n_s : Int) = (f0_s (76 + 2 * s_s) 3).toInt ∨ ¬ okK nr (h_s.2.2.1 (76 + 2 * s_s + 1) n_s)) → V (h_s.1, f_s, h_s.2.2.1, h_s.2.2.2) := fun w_s => t_s n_s f_s ⟨hn, hl, ho, w_s⟩ eL es hg
    refine ⟨fun c1_s => ⟨fun c2_s => fun c3_s => ⟨fun c4_s => fin_s (Or.inr (Or.inr (fun w_s => by have := w_s.1; omega))), fun c4_s => ⟨fun c5_s => fun c6_s => ?_, fun c5_s => fin_s (Or.inr (Or.inr (fun w_s => c5_s w_s.2)))⟩⟩, fun c2_s => fin_s (Or.inr (Or.inl (by omega)))⟩, fun c1_s => fin_s (Or.inl (by omega))⟩
    have e5_s : (x3 + 1).toInt = ((n_s + 1 : Nat) : Int) := by
      rw [in1_ (by omega), e3_s]
      omega
    refine rd48 hk hs e2_s n0_s t_s F_s (n_s + 1) (x3 + 1) _ none _ e5_s (by omega) (by omega) (fun k_s hk1 => ?_) ?_ (fun k_s hk1 => ?_) (fun a_s k_s q1_s q2_s => ?_)
    · by_cases e_s : k_s = n_s
      · rw [e_s]
        exact ⟨by omega, c5_s⟩
      · exact ho k_s (by omega)
    · rw [zsame_up]
      exact e5_s
    · rw [zne_up (by omega)]
      by_cases e_s : k_s = n_s
      · rw [e_s, zsame_up]
      · rw [zne_up (by omega)]
        exact es k_s (by omega)
    · rw [zne_up (by omega), zne_up (by omega)]
      exact hg a_s k_s q1_s q2_s
theorem sp_48 {F_s s_s : Nat} (hk : hKn h_s) (hs : s_s < 6) (e2_s : x2_s.toInt = (nr : Int)) (n0_s : 0 ≤ (f0_s (76 + 2 * s_s) 3).toInt) (t_s : ∀ L_s f1_s, isJ nr (h_s.2.2.1 (76 + 2 * s_s + 1)) (f0_s (76 + 2 * s_s) 3).toInt L_s → (f1_s 50 1).toInt = ((L_s : Nat) : Int) → (∀ k_s, k_s < L_s → f1_s 51 k_s = (h_s.2.2.1 (76 + 2 * s_s + 1) k_s).toInt32) → (∀ a_s k_s, ¬ (a_s = 50 ∧ k_s = 1) → ¬ a_s = 51 → f1_s a_s k_s = f0_s a_s k_s) → V (h_s.1, f1_s, h_s.2.2.1, h_s.2.2.2)) : wF F_s 48 (0, [some (.ref 50), some (.ref (76 + 2 * s_s)), some (.int x2_s), none, none, none], [], (h_s.1, f0_s, h_s.2.2.1, h_s.2.2.2)) (gV V) := by
  refine wF_le (Nat.le_succ F_s) (sg_48_0 (h_s := (h_s.1, f0_s, h_s.2.2.1, h_s.2.2.2)) hs hk ?_)
  exact rd48 (f0_s := f0_s) hk hs e2_s n0_s t_s F_s 0 0 none none _ rfl (by omega) n0_s (fun k_s hk1 => absurd hk1 (Nat.not_lt_zero k_s)) (by show (zup f0_s 50 1 0 50 1).toInt = 0; rw [zsame_up]; rfl) (fun k_s hk1 => absurd hk1 (Nat.not_lt_zero k_s)) (fun a_s k_s q1_s q2_s => zne_up q1_s)
theorem rj187 (hk : hKn h_s) (c8_s : (h_s.2.1 102 8).toInt = (nr : Int)) (d0_s : 0 ≤ x1_s.toInt) (d5_s : x1_s.toInt ≤ 5) (t_s : ∀ (v_s : Int32) (L_s : Nat), v_s.toInt = (L_s : Int) → isJ nr (fun k_s => h_s.2.2.1 126 (60 * zix x1_s + k_s)) (h_s.2.1 125 (zix x1_s)).toInt L_s → K_s v_s h_s) : ∀ (F_s n_s : Nat) (x2_s : Int32), x2_s.toInt = (n_s : Int) → n_s ≤ 20 → (n_s : Int) ≤ (h_s.2.1 125 (zix x1_s)).toInt → (∀ k_s, k_s < n_s → okK nr (h_s.2.2.1 126 (60 * zix x1_s + k_s))) → wF F_s 187 (2, [some (.ref 102), some (.int x1_s), some (.int x2_s)], [], h_s) (gI K_s)
  | 0, _, _, _, _, _, _ => wF_zero
  | F_s + 1, n_s, x2_s, e2_s, hn, hl, ho => by
    have e8 := sb1 c8_s
    have zz := zx60 d0_s d5_s (show 0 ≤ x2_s.toInt by omega) (by omega)
    have z_s := azix (i := x2_s) (by omega)
    have ez : zix x2_s = n_s := by omega
    rw [ez] at zz
    refine sg_187_2 (h_s := h_s) hk ?_
    rw [e8, zz, e2_s]
    have fin_s : (n_s = 20 ∨ (n_s : Int) = (h_s.2.1 125 (zix x1_s)).toInt ∨ ¬ okK nr (h_s.2.2.1 126 (60 * zix x1_s + n_s))) → K_s x2_s h_s := fun w_s => t_s x2_s n_s e2_s ⟨hn, hl, ho, w_s⟩
    refine ⟨fun c1_s => fun c2_s => ⟨fun c3_s => fun c4_s => ⟨fun c5_s => fin_s (Or.inr (Or.inr (fun w_s => by have := w_s.1; omega))), fun c5_s => ⟨fun c6_s => fin_s (Or.inr (Or.inr (fun w_s => by have := w_s.2; omega))), fun c6_s => ?_⟩⟩, fun c3_s => fin_s (Or.inr (Or.inl (by omega)))⟩, fun c1_s => fin_s (Or.inl (by omega))⟩
    refine rj187 hk c8_s d0_s d5_s t_s F_s (n_s + 1) (x2_s + 1) (by rw [in1_ (by omega)]; omega) (by omega) (by omega) (fun k_s hk1 => ?_)
    by_cases e_s : k_s = n_s
    · rw [e_s]
      exact ⟨by omega, by omega⟩
    · exact ho k_s (by omega)
theorem sp_187 {F_s : Nat} (hk : hKn h_s) (c8_s : (h_s.2.1 102 8).toInt = (nr : Int)) (d0_s : 0 ≤ x1_s.toInt) (d5_s : x1_s.toInt ≤ 5) (n0_s : 0 ≤ (h_s.2.1 125 (zix x1_s)).toInt) (t_s : ∀ (v_s : Int32) (L_s : Nat), v_s.toInt = (L_s : Int) → isJ nr (fun k_s => h_s.2.2.1 126 (60 * zix x1_s + k_s)) (h_s.2.1 125 (zix x1_s)).toInt L_s → K_s v_s h_s) : wF F_s 187 (0, [some (.ref 102), some (.int x1_s), none], [], h_s) (gI K_s) := wF_le (Nat.le_succ F_s) (sg_187_0 (h_s := h_s) hk (rj187 hk c8_s d0_s d5_s t_s F_s 0 0 rfl (by omega) n0_s (fun k_s hk1 => absurd hk1 (Nat.not_lt_zero k_s))))
/-- going leaves the head's form alone -/
theorem gm_6 {st_s kd : Int32} : ∀ (n_s : Nat) (o : oI), (gmO lw st_s kd n_s o).2 6 = o 6
  | 0, _ => rfl
  | n_s + 1, o => by
    unfold gmO
    by_cases c_s : 99 ≤ (o 2).toInt
    · rw [if_pos c_s]
    · rw [if_neg c_s]
      exact (gm_6 n_s _).trans (os_ne (show ¬ 6 = 2 by decide))
theorem go_6 {m_s : Nat} {st_s kd : Int32} {o : oI} : (goO lw m_s st_s kd o).2.2 6 = o 6 := by
  unfold goO
  by_cases c_s : (o 2).toInt < 99 ∧ ¬ (9 - o 2 / 11).toInt < st_s.toInt
  · rw [if_pos c_s]
    by_cases e_s : (gmO lw st_s kd m_s o).1 = m_s
    · rw [if_pos e_s]
      show coolO (gmO lw st_s kd m_s o).2 6 = o 6
      unfold coolO
      rw [os_ne (show ¬ 6 = 3 by decide)]
      exact gm_6 m_s o
    · rw [if_neg e_s]
      exact gm_6 m_s o
  · rw [if_neg c_s]
theorem goF_fr {f_s f1_s : Nat → Nat → Int32} {o : oI} {r_s : Nat} (e_s : ∀ k_s, f1_s 103 k_s = f_s 103 k_s) : goF lw f1_s o r_s = goF lw f_s o r_s := by
  unfold goF
  rw [e_s, e_s, e_s]
theorem sp_50 {F_s k_s r_s : Nat} {f_s : Nat → Nat → Int32} {o : oI} (hk : hKn h_s) (hr9 : h_s.2.2.2 7 9 = some q_s) (hm_s : q_s = 14 ∨ q_s = 17) (hl : lawC q_s f_s lw) (hp : lwP lw) (hc_s : tC nh ni nr f_s) (e1_s : x1_s.toInt = (k_s : Int)) (e51 : (f_s 51 k_s).toInt = (r_s : Int)) (hr : r_s < nr) (hcw : cwO f_s 88 o) (hB_s : oB o) (t_s : ∀ v_s f1_s, v_s.toInt = (if (goF lw f_s o r_s).2.1 = true then 1 else 0) → (∃ g_s : Int32, g_s.toInt = ((goF lw f_s o r_s).1 : Int) ∧ f1_s 50 2 = f_s 50 2 + g_s) → f1_s 50 3 = f_s 50 3 + bI_ (goF lw f_s o r_s).2.1 → cwO f1_s 88 (goF lw f_s o r_s).2.2 → (∀ a_s k_s, ¬ a_s = 13 → ¬ a_s = 16 → ¬ a_s = 19 → ¬ (a_s = 88 ∧ (k_s = 2 ∨ k_s = 3)) → ¬ (a_s = 50 ∧ (k_s = 2 ∨ k_s = 3)) → f1_s a_s k_s = f_s a_s k_s) → K_s v_s (h_s.1, f1_s, h_s.2.2.1, h_s.2.2.2)) : wF F_s 50 (0, [some (.ref 50), some (.int x1_s), some (.ref 88), some (.ref 7), none, none], [], (h_s.1, f_s, h_s.2.2.1, h_s.2.2.2)) (gI K_s) := by
  have b_s := hc_s.1
  have z_s := azix (i := x1_s) (by omega)
  have ez : zix x1_s = k_s := by omega
  have z2 := azix (i := f_s 51 k_s) (by omega)
  have ez2 : zix (f_s 51 k_s) = r_s := by omega
  obtain ⟨r2, r3, r4⟩ := tC_rd hc_s hr
  obtain ⟨m1_s, m2_s, m3_s⟩ := tM_ml (tC_M hc_s) hr
  refine wF_le (Nat.le_succ F_s) (sg_50_0 (h_s := (h_s.1, f_s, h_s.2.2.1, h_s.2.2.2)) hk ?_)
  dsimp only
  rw [ez, ez2]
  refine fun c1_s => fun c2_s => ?_
  refine sp_24 (m_s := zix (f_s 103 (68 + r_s))) hk hr9 hm_s hl hp (show dRo 88 (28 + r_s) by unfold dRo; omega) (by rw [r2]; exact m1_s) m2_s hcw hB_s (fun v_s f1_s g1 g2 g3_s _ => ?_)
  rw [r3, r4] at g1 g2
  have g1 : v_s.toInt = ((goF lw f_s o r_s).1 : Int) := g1
  have g2 : ∀ k_s, k_s < 6 → f1_s 88 k_s = (goF lw f_s o r_s).2.2 k_s := g2
  have eml : f1_s (28 + r_s) 2 = f_s 103 (68 + r_s) := by rw [g3_s _ _ (by omega) (by omega) (by omega) (by omega)]; exact r2
  have l2 : f1_s 50 2 = f_s 50 2 := g3_s _ _ (by omega) (by omega) (by omega) (by omega)
  have l3 : f1_s 50 3 = f_s 50 3 := g3_s _ _ (by omega) (by omega) (by omega) (by omega)
  have gall : (goF lw f_s o r_s).2.1 = true ↔ (goF lw f_s o r_s).1 = zix (f_s 103 (68 + r_s)) := go_all m3_s
  have gle : (goF lw f_s o r_s).1 ≤ zix (f_s 103 (68 + r_s)) := go_le
  have h6 : (goF lw f_s o r_s).2.2 6 = o 6 := go_6
  dsimp only
  rw [zne_up (show ¬ (28 + r_s = 50 ∧ 2 = 2) by omega), eml, m1_s, g1, l2, l3]
  have cw_s : ∀ f2_s : Nat → Nat → Int32, (∀ a_s k_s, ¬ (a_s = 50 ∧ (k_s = 2 ∨ k_s = 3)) → f2_s a_s k_s = f1_s a_s k_s) → cwO f2_s 88 (goF lw f_s o r_s).2.2 := fun f2_s q1_s => by
    have e6_s : f2_s 88 6 = f_s 88 6 := by rw [q1_s _ _ (by omega)]; exact g3_s _ _ (by omega) (by omega) (by omega) (by omega)
    have e76 : f2_s 7 6 = f_s 7 6 := by rw [q1_s _ _ (by omega)]; exact g3_s _ _ (by omega) (by omega) (by omega) (by omega)
    have e8 : ∀ k_s, f2_s 8 k_s = f_s 8 k_s := fun k_s => by rw [q1_s _ _ (by omega)]; exact g3_s _ _ (by omega) (by omega) (by omega) (by omega)
    refine ⟨fun k_s hk6 => by rw [q1_s _ _ (by omega)]; exact g2 k_s hk6, ?_⟩
    rw [e6_s, e76, e8, h6]
    exact hcw.2
  have ge : ∀ f2_s : Nat → Nat → Int32, (∀ a_s k_s, ¬ (a_s = 50 ∧ (k_s = 2 ∨ k_s = 3)) → f2_s a_s k_s = f1_s a_s k_s) → ∀ a_s k_s, ¬ a_s = 13 → ¬ a_s = 16 → ¬ a_s = 19 → ¬ (a_s = 88 ∧ (k_s = 2 ∨ k_s = 3)) → ¬ (a_s = 50 ∧ (k_s = 2 ∨ k_s = 3)) → f2_s a_s k_s = f_s a_s k_s := fun f2_s q1_s a_s k_s p1_s p2_s p3_s p4_s p5_s => by
    rw [q1_s a_s k_s p5_s]
    exact g3_s a_s k_s p1_s p2_s p3_s p4_s
  refine ⟨fun c3_s => ?_, fun c3_s => ?_⟩
  · have no_s : ¬ (goF lw f_s o r_s).2.1 = true := fun w_s => by have := gall.mp w_s; omega
    have q1_s : ∀ a_s k_s, ¬ (a_s = 50 ∧ (k_s = 2 ∨ k_s = 3)) → zup f1_s 50 2 (f_s 50 2 + v_s) a_s k_s = f1_s a_s k_s := fun a_s k_s w_s => zne_up (by omega)
    refine t_s 0 _ (by rw [if_neg no_s]; rfl) ⟨v_s, g1, zsame_up⟩ ?_ (cw_s _ q1_s) (ge _ q1_s)
    rw [zne_up (by omega), l3]
    unfold bI_
    rw [if_neg no_s]
    exact (iadd0 _).symm
  · have yes_s : (goF lw f_s o r_s).2.1 = true := gall.mpr (by omega)
    have q1_s : ∀ a_s k_s, ¬ (a_s = 50 ∧ (k_s = 2 ∨ k_s = 3)) → zup (zup f1_s 50 2 (f_s 50 2 + v_s)) 50 3 (f_s 50 3 + 1) a_s k_s = f1_s a_s k_s := fun a_s k_s w_s => by rw [zne_up (by omega), zne_up (by omega)]
    refine t_s 1 _ (by rw [if_pos yes_s]; rfl) ⟨v_s, g1, by rw [zne_up (by omega), zsame_up]⟩ ?_ (cw_s _ q1_s) (ge _ q1_s)
    rw [zsame_up]
    unfold bI_
    rw [if_pos yes_s]
end JO_s
/-! THE FIRST ELEMENT THAT TELLS WORN WRONGLY: class and reference say the same number. -/
def ffR (go_s : oI → Nat → Nat × Bool × oI) (told_s : Nat → Int64) (L_s : Nat) : Nat → Nat → oI → Int
  | 0, _, _ => -2
  | d_s + 1, n_s, o => if n_s = 0 then (if (told_s 0).toInt = (o 2).toInt then ffR go_s told_s L_s d_s 1 o else 0) else if n_s ≤ L_s ∧ (go_s o (n_s - 1)).2.1 = true then (if (told_s n_s).toInt = ((go_s o (n_s - 1)).2.2 2).toInt then ffR go_s told_s L_s d_s (n_s + 1) (go_s o (n_s - 1)).2.2 else (n_s : Int)) else (n_s : Int)
section FF
variable {go_s : oI → Nat → Nat × Bool × oI} {told_s : Nat → Int64} {L_s d_s n_s : Nat} {o : oI}
theorem ff_0 : ffR go_s told_s L_s (d_s + 1) 0 o = if (told_s 0).toInt = (o 2).toInt then ffR go_s told_s L_s d_s 1 o else 0 := if_pos rfl
theorem ff_no (hn : ¬ n_s = 0) (h_s : ¬ (n_s ≤ L_s ∧ (go_s o (n_s - 1)).2.1 = true)) : ffR go_s told_s L_s (d_s + 1) n_s o = (n_s : Int) := (if_neg hn).trans (if_neg h_s)
theorem ff_yes (hn : ¬ n_s = 0) (h_s : n_s ≤ L_s ∧ (go_s o (n_s - 1)).2.1 = true) : ffR go_s told_s L_s (d_s + 1) n_s o = if (told_s n_s).toInt = ((go_s o (n_s - 1)).2.2 2).toInt then ffR go_s told_s L_s d_s (n_s + 1) (go_s o (n_s - 1)).2.2 else (n_s : Int) := (if_neg hn).trans (if_pos h_s)
end FF
def goJ (lw : Option (List pB)) (f_s : Nat → Nat → Int32) (c_s : Nat → Int64) (o : oI) (k_s : Nat) : Nat × Bool × oI := goF lw f_s o (c_s k_s).toInt.toNat
def frJ (f0_s f_s : Nat → Nat → Int32) : Prop := ∀ a_s k_s, ¬ a_s = 13 → ¬ a_s = 16 → ¬ a_s = 19 → ¬ (a_s = 88 ∧ k_s < 7) → ¬ (a_s = 50 ∧ (k_s = 2 ∨ k_s = 3)) → f_s a_s k_s = f0_s a_s k_s
section FW
variable {h_s : zH} {K_s : Int32 → zH → Prop} {nh ni nr q_s L_s s_s : Nat} {lw : Option (List pB)} {x1_s x2_s : Int32} {f0_s : Nat → Nat → Int32} {c_s told_s : Nat → Int64} {R_s : Int}
def P3 (h_s : zH) (K_s : Int32 → zH → Prop) (f0_s : Nat → Nat → Int32) (lw : Option (List pB)) (c_s told_s : Nat → Int64) (L_s s_s : Nat) (R_s : Int) (F_s : Nat) : Prop := ∀ (x4_s : Int32) (l5 : Option Value) (n_s d_s : Nat) (f_s : Nat → Nat → Int32) (o : oI), frJ f0_s f_s → cwO f_s 88 o → oB o → x4_s.toInt = (n_s : Int) → ((n_s + d_s : Nat) : Int) = (f0_s (76 + 2 * s_s) 3).toInt → ffR (goJ lw f0_s c_s) told_s L_s d_s n_s o = R_s → wF F_s 51 (3, [some (.ref 50), some (.ref 88), some (.ref (76 + 2 * s_s)), some (.ref 7), some (.int x4_s), l5], [], (h_s.1, f_s, h_s.2.2.1, h_s.2.2.2)) (gI K_s)
def P46 (h_s : zH) (K_s : Int32 → zH → Prop) (f0_s : Nat → Nat → Int32) (lw : Option (List pB)) (c_s told_s : Nat → Int64) (L_s s_s : Nat) (R_s : Int) (F_s : Nat) : Prop := ∀ (x4_s x5_s : Int32) (n_s d_s : Nat) (f_s : Nat → Nat → Int32) (o : oI), frJ f0_s f_s → cwO f_s 88 o → oB o → x4_s.toInt = (n_s : Int) → ((n_s + d_s + 1 : Nat) : Int) = (f0_s (76 + 2 * s_s) 3).toInt → (x5_s.toInt = 0 → (n_s : Int) = R_s) → (¬ x5_s.toInt = 0 → (if (told_s n_s).toInt = (o 2).toInt then ffR (goJ lw f0_s c_s) told_s L_s d_s (n_s + 1) o else (n_s : Int)) = R_s) → wF F_s 51 (46, [some (.ref 50), some (.ref 88), some (.ref (76 + 2 * s_s)), some (.ref 7), some (.int x4_s), some (.int x5_s)], [], (h_s.1, f_s, h_s.2.2.1, h_s.2.2.2)) (gI K_s)
theorem p3_s {F_s : Nat} (hk : hKn h_s) (hs : s_s < 6) (hr9 : h_s.2.2.2 7 9 = some q_s) (hm_s : q_s = 14 ∨ q_s = 17) (hl : lawC q_s f0_s lw) (hp : lwP lw) (hc_s : tC nh ni nr f0_s) (eL : (f0_s 50 1).toInt = (L_s : Int)) (es : ∀ k_s, k_s < L_s → f0_s 51 k_s = (c_s k_s).toInt32) (ok_s : ∀ k_s, k_s < L_s → okK nr (c_s k_s)) (c60 : (f0_s (76 + 2 * s_s) 3).toInt ≤ 60) (t_s : ∀ v_s f1_s, v_s.toInt = R_s → frJ f0_s f1_s → K_s v_s (h_s.1, f1_s, h_s.2.2.1, h_s.2.2.2)) (i4_s : P46 h_s K_s f0_s lw c_s told_s L_s s_s R_s F_s) : P3 h_s K_s f0_s lw c_s told_s L_s s_s R_s (F_s + 1) := by
  intro x4_s l5 n_s d_s f_s o g_s hcw hB_s e4_s ed hR
  have e7_s : f_s (76 + 2 * s_s) 3 = f0_s (76 + 2 * s_s) 3 := g_s _ _ (by omega) (by omega) (by omega) (by omega) (by omega)
  have e50 : f_s 50 1 = f0_s 50 1 := g_s _ _ (by omega) (by omega) (by omega) (by omega) (by omega)
  have b_s := hc_s.1
  refine sg_51_3 (h_s := (h_s.1, f_s, h_s.2.2.1, h_s.2.2.2)) hs hk ?_
  dsimp only
  rw [e7_s, e50, eL, e4_s]
  match d_s, ed, hR with
  | 0, ed, hR => exact ⟨fun c1_s => absurd c1_s (by omega), fun _ => t_s (-2) f_s hR g_s⟩
  | d_s + 1, ed, hR =>
    have e5_s : ((n_s + d_s + 1 : Nat) : Int) = (f0_s (76 + 2 * s_s) 3).toInt := by omega
    refine ⟨fun c1_s => ⟨fun c2_s => ?_, fun c2_s => ⟨fun c3_s => ?_, fun c3_s => ?_⟩⟩, fun c1_s => absurd c1_s (by omega)⟩
    · have en : n_s = 0 := by omega
      subst en
      rw [ff_0] at hR
      exact i4_s x4_s 1 0 d_s f_s o g_s hcw hB_s e4_s e5_s (fun w_s => absurd w_s (by decide)) (fun _ => hR)
    · rw [ff_no (by omega) (fun w_s => by have := w_s.1; omega)] at hR
      exact i4_s x4_s 0 n_s d_s f_s o g_s hcw hB_s e4_s e5_s (fun _ => hR) (fun w_s => absurd rfl w_s)
    · have hn : ¬ n_s = 0 := by omega
      have e1_s : (x4_s - 1).toInt = ((n_s - 1 : Nat) : Int) := by
        rw [sb1 e4_s]
        omega
      have ko := ok_s (n_s - 1) (by omega)
      have t3_s := t32_ (x_s := c_s (n_s - 1)) ko.1 (by have := ko.2; omega)
      have e51 : (f_s 51 (n_s - 1)).toInt = (((c_s (n_s - 1)).toInt.toNat : Nat) : Int) := by
        rw [g_s _ _ (by omega) (by omega) (by omega) (by omega) (by omega), es (n_s - 1) (by omega), t3_s]
        have := ko.1
        omega
      have hc1 : tC nh ni nr f_s := tC_fr (fun a_s k_s w_s => g_s a_s k_s (by unfold inC at w_s; omega) (by unfold inC at w_s; omega) (by unfold inC at w_s; omega) (by unfold inC at w_s; omega) (by unfold inC at w_s; omega)) hc_s
      have l1 : lawC q_s f_s lw := lawC_fr hm_s (fun a_s k_s w_s => g_s a_s k_s (by omega) (by omega) (by omega) (by omega) (by omega)) hl
      have eg : goF lw f_s o (c_s (n_s - 1)).toInt.toNat = goJ lw f0_s c_s o (n_s - 1) := goF_fr (fun k_s => g_s 103 k_s (by omega) (by omega) (by omega) (by omega) (by omega))
      refine sp_50 (k_s := n_s - 1) (r_s := (c_s (n_s - 1)).toInt.toNat) hk hr9 hm_s l1 hp hc1 e1_s e51 (by have := ko.1; have := ko.2; omega) hcw hB_s (fun v_s f1_s g1 _ _ g4 g5_s _ => ?_)
      rw [eg] at g1 g4
      have hB2 : oB (goJ lw f0_s c_s o (n_s - 1)).2.2 := go_B hB_s
      have g6 : frJ f0_s f1_s := fun a_s k_s q1_s q2_s q3_s q4_s q5_s => by
        rw [g5_s a_s k_s q1_s q2_s q3_s (by omega) q5_s]
        exact g_s a_s k_s q1_s q2_s q3_s q4_s q5_s
      refine ⟨fun c4_s => ?_, fun c4_s => ?_⟩
      · have no_s : ¬ (goJ lw f0_s c_s o (n_s - 1)).2.1 = true := fun w_s => by
          rw [if_pos w_s] at g1
          omega
        rw [ff_no hn (fun w_s => no_s w_s.2)] at hR
        exact i4_s x4_s 0 n_s d_s f1_s _ g6 g4 hB2 e4_s e5_s (fun _ => hR) (fun w_s => absurd rfl w_s)
      · have yes_s : (goJ lw f0_s c_s o (n_s - 1)).2.1 = true := by
          cases e_s : (goJ lw f0_s c_s o (n_s - 1)).2.1 with
          | true => rfl
          | false =>
            rw [if_neg (by rw [e_s]; decide)] at g1
            omega
        rw [ff_yes hn ⟨by omega, yes_s⟩] at hR
        exact i4_s x4_s 1 n_s d_s f1_s _ g6 g4 hB2 e4_s e5_s (fun w_s => absurd w_s (by decide)) (fun _ => hR)
theorem p46_s {F_s : Nat} (hk : hKn h_s) (hs : s_s < 6) (ht : ∀ n_s, n_s < 60 → h_s.2.2.1 (76 + 2 * s_s + 1) n_s = told_s n_s) (c60 : (f0_s (76 + 2 * s_s) 3).toInt ≤ 60) (t_s : ∀ v_s f1_s, v_s.toInt = R_s → frJ f0_s f1_s → K_s v_s (h_s.1, f1_s, h_s.2.2.1, h_s.2.2.2)) (i3_s : P3 h_s K_s f0_s lw c_s told_s L_s s_s R_s F_s) : P46 h_s K_s f0_s lw c_s told_s L_s s_s R_s (F_s + 1) := by
  intro x4_s x5_s n_s d_s f_s o g_s hcw hB_s e4_s ed h0 h1
  have z_s := azix (i := x4_s) (by omega)
  have ez : zix x4_s = n_s := by omega
  have e5_s : (x4_s + 1).toInt = ((n_s + 1 : Nat) : Int) := by
    rw [in1_ (by omega), e4_s]
    omega
  refine sg_51_46 (h_s := (h_s.1, f_s, h_s.2.2.1, h_s.2.2.2)) hs hk ?_
  dsimp only
  rw [ez, ht n_s (by omega), hcw.1 2 (by omega)]
  refine ⟨fun c1_s => t_s x4_s f_s (by rw [e4_s]; exact h0 c1_s) g_s, fun c1_s => fun c2_s => ⟨fun c3_s => ?_, fun c3_s => ?_⟩⟩
  · have u_s := h1 c1_s
    rw [if_pos c3_s] at u_s
    exact i3_s (x4_s + 1) _ (n_s + 1) d_s f_s o g_s hcw hB_s e5_s (by omega) u_s
  · have u_s := h1 c1_s
    rw [if_neg c3_s] at u_s
    exact t_s x4_s f_s (by rw [e4_s]; exact u_s) g_s
theorem p_all (hk : hKn h_s) (hs : s_s < 6) (hr9 : h_s.2.2.2 7 9 = some q_s) (hm_s : q_s = 14 ∨ q_s = 17) (hl : lawC q_s f0_s lw) (hp : lwP lw) (hc_s : tC nh ni nr f0_s) (eL : (f0_s 50 1).toInt = (L_s : Int)) (es : ∀ k_s, k_s < L_s → f0_s 51 k_s = (c_s k_s).toInt32) (ok_s : ∀ k_s, k_s < L_s → okK nr (c_s k_s)) (ht : ∀ n_s, n_s < 60 → h_s.2.2.1 (76 + 2 * s_s + 1) n_s = told_s n_s) (c60 : (f0_s (76 + 2 * s_s) 3).toInt ≤ 60) (t_s : ∀ v_s f1_s, v_s.toInt = R_s → frJ f0_s f1_s → K_s v_s (h_s.1, f1_s, h_s.2.2.1, h_s.2.2.2)) : ∀ F_s, P3 h_s K_s f0_s lw c_s told_s L_s s_s R_s F_s ∧ P46 h_s K_s f0_s lw c_s told_s L_s s_s R_s F_s
  | 0 => ⟨fun _ _ _ _ _ _ _ _ _ _ _ _ => wF_zero, fun _ _ _ _ _ _ _ _ _ _ _ _ _ => wF_zero⟩
  | F_s + 1 => by
    obtain ⟨i3_s, i4_s⟩ := p_all hk hs hr9 hm_s hl hp hc_s eL es ok_s ht c60 t_s F_s
    exact ⟨p3_s hk hs hr9 hm_s hl hp hc_s eL es ok_s c60 t_s i4_s, p46_s hk hs ht c60 t_s i3_s⟩
theorem sp_51 {F_s : Nat} {o : oI} (hk : hKn h_s) (hs : s_s < 6) (hr9 : h_s.2.2.2 7 9 = some q_s) (hm_s : q_s = 14 ∨ q_s = 17) (hl : lawC q_s f0_s lw) (hp : lwP lw) (hc_s : tC nh ni nr f0_s) (eL : (f0_s 50 1).toInt = (L_s : Int)) (es : ∀ k_s, k_s < L_s → f0_s 51 k_s = (c_s k_s).toInt32) (ok_s : ∀ k_s, k_s < L_s → okK nr (c_s k_s)) (ht : ∀ n_s, n_s < 60 → h_s.2.2.1 (76 + 2 * s_s + 1) n_s = told_s n_s) (c0_s : 0 ≤ (f0_s (76 + 2 * s_s) 3).toInt) (c60 : (f0_s (76 + 2 * s_s) 3).toInt ≤ 60) (hcw : cwO f0_s 88 o) (hB_s : oB o) (t_s : ∀ v_s f1_s, v_s.toInt = ffR (goJ lw f0_s c_s) told_s L_s (f0_s (76 + 2 * s_s) 3).toInt.toNat 0 o → frJ f0_s f1_s → K_s v_s (h_s.1, f1_s, h_s.2.2.1, h_s.2.2.2)) : wF F_s 51 (0, [some (.ref 50), some (.ref 88), some (.ref (76 + 2 * s_s)), some (.ref 7), none, none], [], (h_s.1, f0_s, h_s.2.2.1, h_s.2.2.2)) (gI K_s) := by
  refine wF_le (Nat.le_succ F_s) (sg_51_0 (h_s := (h_s.1, f0_s, h_s.2.2.1, h_s.2.2.2)) hs hk ?_)
  exact (p_all hk hs hr9 hm_s hl hp hc_s eL es ok_s ht c60 t_s F_s).1 0 none 0 _ f0_s o (fun _ _ _ _ _ _ _ => rfl) hcw hB_s rfl (by omega) rfl
/-- the reference -/
def R10 (h_s : zH) (K_s : Int32 → zH → Prop) (f0_s : Nat → Nat → Int32) (lw : Option (List pB)) (c_s told_s : Nat → Int64) (L_s s2_s : Nat) (x1_s x2_s : Int32) (R_s : Int) (F_s : Nat) : Prop := ∀ (x3 x4_s : Int32) (n_s d_s : Nat) (f_s : Nat → Nat → Int32) (o : oI), frG f0_s f_s → (∀ k_s, k_s < 7 → f_s 112 k_s = o k_s) → oB o → ¬ x3.toInt = 0 → x4_s.toInt = (n_s : Int) → ((n_s + d_s : Nat) : Int) = (f0_s 125 s2_s).toInt → ffR (goJ lw f0_s c_s) told_s L_s d_s n_s o = R_s → wF F_s 204 (10, [some (.ref 102), some (.int x1_s), some (.int x2_s), some (.int x3), some (.int x4_s)], [], (h_s.1, f_s, h_s.2.2.1, h_s.2.2.2)) (gI K_s)
def R52 (h_s : zH) (K_s : Int32 → zH → Prop) (f0_s : Nat → Nat → Int32) (lw : Option (List pB)) (c_s told_s : Nat → Int64) (L_s s2_s : Nat) (x1_s x2_s : Int32) (R_s : Int) (F_s : Nat) : Prop := ∀ (x3 x4_s : Int32) (n_s d_s : Nat) (f_s : Nat → Nat → Int32) (o : oI), frG f0_s f_s → (∀ k_s, k_s < 7 → f_s 112 k_s = o k_s) → oB o → (x3.toInt = 0 ∧ ¬ n_s ≤ L_s) ∨ (¬ x3.toInt = 0 ∧ n_s ≤ L_s) → 0 < n_s → x4_s.toInt = (n_s : Int) → ((n_s + d_s + 1 : Nat) : Int) = (f0_s 125 s2_s).toInt → ffR (goJ lw f0_s c_s) told_s L_s (d_s + 1) n_s o = R_s → wF F_s 204 (52, [some (.ref 102), some (.int x1_s), some (.int x2_s), some (.int x3), some (.int x4_s)], [], (h_s.1, f_s, h_s.2.2.1, h_s.2.2.2)) (gI K_s)
def R83 (h_s : zH) (K_s : Int32 → zH → Prop) (f0_s : Nat → Nat → Int32) (lw : Option (List pB)) (c_s told_s : Nat → Int64) (L_s s2_s : Nat) (x1_s x2_s : Int32) (R_s : Int) (F_s : Nat) : Prop := ∀ (x3 x4_s : Int32) (n_s d_s : Nat) (f_s : Nat → Nat → Int32) (o : oI), frG f0_s f_s → (∀ k_s, k_s < 7 → f_s 112 k_s = o k_s) → oB o → x4_s.toInt = (n_s : Int) → ((n_s + d_s + 1 : Nat) : Int) = (f0_s 125 s2_s).toInt → (x3.toInt = 0 → (n_s : Int) = R_s) → (¬ x3.toInt = 0 → (if (told_s n_s).toInt = (o 2).toInt then ffR (goJ lw f0_s c_s) told_s L_s d_s (n_s + 1) o else (n_s : Int)) = R_s) → wF F_s 204 (83, [some (.ref 102), some (.int x1_s), some (.int x2_s), some (.int x3), some (.int x4_s)], [], (h_s.1, f_s, h_s.2.2.1, h_s.2.2.2)) (gI K_s)
theorem r10_s {F_s s1_s s2_s : Nat} (hk : hKn h_s) (hc_s : tM nh ni nr f0_s) (d1_s : (x1_s / 10).toInt = (s1_s : Int)) (d2_s : (x1_s - x1_s / 10 * 10).toInt = (s2_s : Int)) (hs1 : s1_s < 6) (hs2 : s2_s < 6) (n0_s : 0 ≤ (f0_s 125 s1_s).toInt) (ec : ∀ k_s, c_s k_s = h_s.2.2.1 126 (60 * s1_s + k_s)) (hJ : isJ nr c_s (f0_s 125 s1_s).toInt L_s) (t_s : ∀ v_s f1_s, v_s.toInt = R_s → frG f0_s f1_s → K_s v_s (h_s.1, f1_s, h_s.2.2.1, h_s.2.2.2)) (i5_s : R52 h_s K_s f0_s lw c_s told_s L_s s2_s x1_s x2_s R_s F_s) (i8_s : R83 h_s K_s f0_s lw c_s told_s L_s s2_s x1_s x2_s R_s F_s) : R10 h_s K_s f0_s lw c_s told_s L_s s2_s x1_s x2_s R_s (F_s + 1) := by
  intro x3 x4_s n_s d_s f_s o g_s ho hB_s h3 e4_s ed hR
  have z1 := azix (i := x1_s / 10) (by omega)
  have ez1 : zix (x1_s / 10) = s1_s := by omega
  have z2 := azix (i := x1_s - x1_s / 10 * 10) (by omega)
  have ez2 : zix (x1_s - x1_s / 10 * 10) = s2_s := by omega
  have e25_s : ∀ k_s, f_s 125 k_s = f0_s 125 k_s := fun k_s => g_s _ _ (by omega) (by omega) (by omega)
  have c8_s : (f_s 102 8).toInt = (nr : Int) := by
    rw [g_s 102 8 (by omega) (by omega) (by omega)]
    exact hc_s.2.1.2.2
  refine sg_204_10 (h_s := (h_s.1, f_s, h_s.2.2.1, h_s.2.2.2)) hk ?_
  dsimp only
  rw [ez2, e25_s, e4_s]
  intro c1_s
  match d_s, ed, hR with
  | 0, ed, hR => exact ⟨fun c2_s => absurd c2_s (by omega), fun _ => t_s (-2) f_s hR g_s⟩
  | d_s + 1, ed, hR =>
    have e5_s : ((n_s + d_s + 1 : Nat) : Int) = (f0_s 125 s2_s).toInt := by omega
    refine ⟨fun c2_s => ⟨fun c3_s => ⟨fun c4_s => absurd c4_s h3, fun c4_s => ?_⟩, fun c3_s => ?_⟩, fun c2_s => absurd c2_s (by omega)⟩
    · refine sp_187 (h_s := (h_s.1, f_s, h_s.2.2.1, h_s.2.2.2)) (nr := nr) hk c8_s (by omega) (by omega) (by show 0 ≤ (f_s 125 (zix (x1_s / 10))).toInt; rw [ez1, e25_s]; exact n0_s) (fun v_s L1 ev_s hj hk5 => ?_)
      have hj : isJ nr (fun k_s => h_s.2.2.1 126 (60 * zix (x1_s / 10) + k_s)) (f_s 125 (zix (x1_s / 10))).toInt L1 := hj
      rw [ez1, e25_s] at hj
      have el : L1 = L_s := isJ_u hj (isJ_c (fun k_s _ => (ec k_s).symm) hJ)
      subst el
      exact ⟨fun c5_s => i5_s 0 x4_s n_s d_s f_s o g_s ho hB_s (Or.inl ⟨rfl, by omega⟩) (by omega) e4_s e5_s hR, fun c5_s => i5_s 1 x4_s n_s d_s f_s o g_s ho hB_s (Or.inr ⟨by decide, by omega⟩) (by omega) e4_s e5_s hR⟩
    · have en : n_s = 0 := by omega
      subst en
      rw [ff_0] at hR
      exact i8_s x3 x4_s 0 d_s f_s o g_s ho hB_s e4_s e5_s (fun w_s => absurd w_s h3) (fun _ => hR)
theorem r52_s {F_s s1_s s2_s : Nat} (hk : hKn h_s) (hc_s : tM nh ni nr f0_s) (hl : lawR f0_s lw) (hp : lwP lw) (d1_s : (x1_s / 10).toInt = (s1_s : Int)) (hs1 : s1_s < 6) (c60 : (f0_s 125 s2_s).toInt ≤ 60) (ec : ∀ k_s, c_s k_s = h_s.2.2.1 126 (60 * s1_s + k_s)) (ok_s : ∀ k_s, k_s < L_s → okK nr (c_s k_s)) (i8_s : R83 h_s K_s f0_s lw c_s told_s L_s s2_s x1_s x2_s R_s F_s) : R52 h_s K_s f0_s lw c_s told_s L_s s2_s x1_s x2_s R_s (F_s + 1) := by
  intro x3 x4_s n_s d_s f_s o g_s ho hB_s h3 hn e4_s ed hR
  have b_s := hc_s.1
  have hn0 : ¬ n_s = 0 := by omega
  refine sg_204_52 (h_s := (h_s.1, f_s, h_s.2.2.1, h_s.2.2.2)) hk ?_
  dsimp only
  refine ⟨fun c1_s => ?_, fun c1_s => fun c2_s => ?_⟩
  · rw [ff_no hn0 (fun w_s => by have := w_s.1; omega)] at hR
    exact i8_s x3 x4_s n_s d_s f_s o g_s ho hB_s e4_s ed (fun _ => hR) (fun w_s => absurd c1_s w_s)
  · have hL : n_s ≤ L_s := by omega
    have z1 := azix (i := x1_s / 10) (by omega)
    have ez1 : zix (x1_s / 10) = s1_s := by omega
    have e1_s : (x4_s - 1).toInt = ((n_s - 1 : Nat) : Int) := by
      rw [sb1 e4_s]
      omega
    have z4 := azix (i := x4_s - 1) (by omega)
    have ez4 : zix (x4_s - 1) = n_s - 1 := by omega
    have zz := zx60 (d_s := x1_s / 10) (i_s := x4_s - 1) (by omega) (by omega) (by omega) (by omega)
    rw [ez1, ez4] at zz
    rw [sub1_as, zz, ← ec (n_s - 1)]
    have ko := ok_s (n_s - 1) (by omega)
    have t3_s := t32_ (x_s := c_s (n_s - 1)) ko.1 (by have := ko.2; omega)
    have er : (c_s (n_s - 1)).toInt = (((c_s (n_s - 1)).toInt.toNat : Nat) : Int) := by
      have := ko.1
      omega
    have hr1 : (c_s (n_s - 1)).toInt.toNat < nr := by
      have := ko.2
      omega
    have m0_s : tM nh ni nr f_s := tM_fr (fun k_s _ _ => g_s _ _ (by omega) (by omega) (by omega)) (fun k_s _ => g_s _ _ (by omega) (by omega) (by omega)) hc_s
    obtain ⟨m1_s, m2_s, m3_s⟩ := tM_ml m0_s hr1
    have l1 : lawR f_s lw := lawR_fr (g_s _ _ (by omega) (by omega) (by omega)) (fun k_s _ => g_s _ _ (by omega) (by omega) (by omega)) hl
    have eg : goF lw f_s o (c_s (n_s - 1)).toInt.toNat = goJ lw f0_s c_s o (n_s - 1) := goF_fr (fun k_s => g_s 103 k_s (by omega) (by omega) (by omega))
    refine sp_183 (h_s := (h_s.1, f_s, h_s.2.2.1, h_s.2.2.2)) (o := o) (r_s := (c_s (n_s - 1)).toInt.toNat) (m_s := zix (f_s 103 (68 + (c_s (n_s - 1)).toInt.toNat))) hk l1 hp (by rw [t3_s]; exact er) (by omega) m1_s m2_s ho hB_s (fun f1_s p1_s p2_s p3_s p4_s hk2 => ?_)
    have p2_s : (f1_s 102 23).toInt = (if (goF lw f_s o (c_s (n_s - 1)).toInt.toNat).2.1 = true then 1 else 0) := p2_s
    have p3_s : ∀ k_s, k_s < 7 → f1_s 112 k_s = (goF lw f_s o (c_s (n_s - 1)).toInt.toNat).2.2 k_s := p3_s
    rw [eg] at p2_s p3_s
    refine i8_s (f1_s 102 23) x4_s n_s d_s f1_s _ (frG_tr g_s p4_s) p3_s (go_B hB_s) e4_s ed (fun w_s => ?_) (fun w_s => ?_)
    · have no_s : ¬ (goJ lw f0_s c_s o (n_s - 1)).2.1 = true := fun u_s => by
        rw [if_pos u_s] at p2_s
        omega
      rw [ff_no hn0 (fun u_s => no_s u_s.2)] at hR
      exact hR
    · have yes_s : (goJ lw f0_s c_s o (n_s - 1)).2.1 = true := by
        cases e_s : (goJ lw f0_s c_s o (n_s - 1)).2.1 with
        | true => rfl
        | false =>
          rw [if_neg (by rw [e_s]; decide)] at p2_s
          exact absurd p2_s w_s
      rw [ff_yes hn0 ⟨hL, yes_s⟩] at hR
      exact hR
theorem r83_s {F_s s2_s : Nat} (hk : hKn h_s) (d2_s : (x1_s - x1_s / 10 * 10).toInt = (s2_s : Int)) (hs2 : s2_s < 6) (c60 : (f0_s 125 s2_s).toInt ≤ 60) (et : ∀ n_s, told_s n_s = h_s.2.2.1 126 (60 * s2_s + n_s)) (t_s : ∀ v_s f1_s, v_s.toInt = R_s → frG f0_s f1_s → K_s v_s (h_s.1, f1_s, h_s.2.2.1, h_s.2.2.2)) (i1_s : R10 h_s K_s f0_s lw c_s told_s L_s s2_s x1_s x2_s R_s F_s) : R83 h_s K_s f0_s lw c_s told_s L_s s2_s x1_s x2_s R_s (F_s + 1) := by
  intro x3 x4_s n_s d_s f_s o g_s ho hB_s e4_s ed h0 h1
  have z2 := azix (i := x1_s - x1_s / 10 * 10) (by omega)
  have ez2 : zix (x1_s - x1_s / 10 * 10) = s2_s := by omega
  have z4 := azix (i := x4_s) (by omega)
  have ez4 : zix x4_s = n_s := by omega
  have zz := zx60 (d_s := x1_s - x1_s / 10 * 10) (i_s := x4_s) (by omega) (by omega) (by omega) (by omega)
  rw [ez2, ez4] at zz
  have e5_s : (x4_s + 1).toInt = ((n_s + 1 : Nat) : Int) := by
    rw [in1_ (by omega), e4_s]
    omega
  refine sg_204_83 (h_s := (h_s.1, f_s, h_s.2.2.1, h_s.2.2.2)) hk ?_
  dsimp only
  rw [zz, ← et n_s, ho 2 (by omega)]
  refine ⟨fun c1_s => t_s x4_s f_s (by rw [e4_s]; exact h0 c1_s) g_s, fun c1_s => fun c2_s => ⟨fun c4_s => ?_, fun c4_s => ?_⟩⟩
  · have u_s := h1 c1_s
    rw [if_pos c4_s] at u_s
    exact i1_s x3 (x4_s + 1) (n_s + 1) d_s f_s o g_s ho hB_s c1_s e5_s (by omega) u_s
  · have u_s := h1 c1_s
    rw [if_neg c4_s] at u_s
    exact t_s x4_s f_s (by rw [e4_s]; exact u_s) g_s
theorem r_all {s1_s s2_s : Nat} (hk : hKn h_s) (hc_s : tM nh ni nr f0_s) (hl : lawR f0_s lw) (hp : lwP lw) (d1_s : (x1_s / 10).toInt = (s1_s : Int)) (d2_s : (x1_s - x1_s / 10 * 10).toInt = (s2_s : Int)) (hs1 : s1_s < 6) (hs2 : s2_s < 6) (n0_s : 0 ≤ (f0_s 125 s1_s).toInt) (c60 : (f0_s 125 s2_s).toInt ≤ 60) (ec : ∀ k_s, c_s k_s = h_s.2.2.1 126 (60 * s1_s + k_s)) (et : ∀ n_s, told_s n_s = h_s.2.2.1 126 (60 * s2_s + n_s)) (hJ : isJ nr c_s (f0_s 125 s1_s).toInt L_s) (t_s : ∀ v_s f1_s, v_s.toInt = R_s → frG f0_s f1_s → K_s v_s (h_s.1, f1_s, h_s.2.2.1, h_s.2.2.2)) : ∀ F_s, R10 h_s K_s f0_s lw c_s told_s L_s s2_s x1_s x2_s R_s F_s ∧ R52 h_s K_s f0_s lw c_s told_s L_s s2_s x1_s x2_s R_s F_s ∧ R83 h_s K_s f0_s lw c_s told_s L_s s2_s x1_s x2_s R_s F_s
  | 0 => ⟨fun _ _ _ _ _ _ _ _ _ _ _ _ _ => wF_zero, fun _ _ _ _ _ _ _ _ _ _ _ _ _ _ => wF_zero, fun _ _ _ _ _ _ _ _ _ _ _ _ _ => wF_zero⟩
  | F_s + 1 => by
    obtain ⟨i1_s, i5_s, i8_s⟩ := r_all hk hc_s hl hp d1_s d2_s hs1 hs2 n0_s c60 ec et hJ t_s F_s
    exact ⟨r10_s hk hc_s d1_s d2_s hs1 hs2 n0_s ec hJ t_s i5_s i8_s, r52_s hk hc_s hl hp d1_s hs1 c60 ec hJ.2.2.1 i8_s, r83_s hk d2_s hs2 c60 et t_s i1_s⟩
theorem sp_204 {F_s i_s s1_s s2_s : Nat} (hk : hKn h_s) (hc_s : tM nh ni nr f0_s) (hl : lawR f0_s lw) (hp : lwP lw) (e2_s : x2_s.toInt = (i_s : Int)) (hi_s : i_s < ni) (d1_s : (x1_s / 10).toInt = (s1_s : Int)) (d2_s : (x1_s - x1_s / 10 * 10).toInt = (s2_s : Int)) (hs1 : s1_s < 6) (hs2 : s2_s < 6) (n0_s : 0 ≤ (f0_s 125 s1_s).toInt) (n2_s : 0 ≤ (f0_s 125 s2_s).toInt) (c60 : (f0_s 125 s2_s).toInt ≤ 60) (ec : ∀ k_s, c_s k_s = h_s.2.2.1 126 (60 * s1_s + k_s)) (et : ∀ n_s, told_s n_s = h_s.2.2.1 126 (60 * s2_s + n_s)) (hJ : isJ nr c_s (f0_s 125 s1_s).toInt L_s) (t_s : ∀ v_s f1_s, v_s.toInt = ffR (goJ lw f0_s c_s) told_s L_s (f0_s 125 s2_s).toInt.toNat 0 (owI f0_s i_s) → frG f0_s f1_s → K_s v_s (h_s.1, f1_s, h_s.2.2.1, h_s.2.2.2)) : wF F_s 204 (0, [some (.ref 102), some (.int x1_s), some (.int x2_s), none, none], [], (h_s.1, f0_s, h_s.2.2.1, h_s.2.2.2)) (gI K_s) := by
  have b_s := hc_s.1
  refine wF_le (Nat.le_succ F_s) (sg_204_0 (h_s := (h_s.1, f0_s, h_s.2.2.1, h_s.2.2.2)) hk ?_)
  refine sp_178 hk e2_s (by omega) (tM_hd hc_s hi_s).1 (fun f1_s g1 g2 hk1 => ?_)
  exact (r_all hk hc_s hl hp d1_s d2_s hs1 hs2 n0_s c60 ec et hJ t_s F_s).1 1 0 0 _ f1_s (owI f0_s i_s) (fun a_s k_s q1_s q2_s q3_s => g2 a_s k_s q2_s) g1 (tM_oB hc_s hi_s) (by decide) rfl (by omega) rfl
end FW
