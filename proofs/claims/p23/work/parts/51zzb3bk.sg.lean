/-! What ended runs give: printed by a program (wip/fun/sg.py). -/
/-- ColdShod$Journey.read(LColdShod$Shelf;I)V, from 0 on -/
theorem sg_48_0 {F_s : Nat} {s_s : Nat} {x2_s : Int32} {h_s : zH} {K_s : zH → Prop} (hs : s_s < 6) (hk : hKn h_s) (t_s : wF F_s 48 (7, [some (.ref 50), some (.ref (76 + 2 * s_s)), some (.int x2_s), some (.int 0), none, none], [], (h_s.1, zup h_s.2.1 50 1 0, h_s.2.2.1, h_s.2.2.2)) (gV K_s)) : wF (F_s + 1) 48 (0, [some (.ref 50), some (.ref (76 + 2 * s_s)), some (.int x2_s), none, none, none], [], h_s) (gV K_s) := by
  refine w_0 (pc := 0) (e_s := (3, 1, 0, 0, 0, .null, [])) (y_s := (1, [some (.ref _), some (.ref _), some (.int _), none, none, none], [.ref _], _)) rfl (u_ rfl) ?_
  refine w_t (pc := 1) (e_s := (0, 1, 0, 0, 0, .int 0, [])) (y_s := (2, [some (.ref _), some (.ref _), some (.int _), none, none, none], [.int _, .ref _], _)) rfl (u_ rfl) ?_
  refine w21 (pc := 2) (len_s := 3) rfl ?_
  refine w_t (pc := 5) (e_s := (0, 1, 0, 0, 0, .int 0, [])) (y_s := (6, [some (.ref _), some (.ref _), some (.int _), none, none, none], [.int _], _)) rfl (u_ rfl) ?_
  refine w_t (pc := 6) (e_s := (4, 1, 3, 0, 0, .null, [])) (y_s := (7, [some (.ref _), some (.ref _), some (.int _), some (.int _), none, none], [], _)) rfl (u_ rfl) ?_
  exact t_s
/-- ColdShod$Journey.read(LColdShod$Shelf;I)V, from 7 on -/
theorem sg_48_7 {F_s : Nat} {s_s : Nat} {x2_s x3 : Int32} {l4 l5 : Option Value} {h_s : zH} {K_s : zH → Prop} (hs : s_s < 6) (hk : hKn h_s) (t_s : (x3.toInt < 20 → ((x3.toInt < (h_s.2.1 (76 + 2 * s_s) 3).toInt → (zix x3 < 60 → ((h_s.2.2.1 (76 + 2 * s_s + 1) (zix x3)).toInt < 0 → K_s h_s) ∧ (¬ (h_s.2.2.1 (76 + 2 * s_s + 1) (zix x3)).toInt < 0 → (((h_s.2.2.1 (76 + 2 * s_s + 1) (zix x3)).toInt < x2_s.toInt → (zix x3 < 20 → wF F_s 48 (7, [some (.ref 50), some (.ref (76 + 2 * s_s)), some (.int x2_s), some (.int (x3 + 1)), some (.long (h_s.2.2.1 (76 + 2 * s_s + 1) (zix x3))), none], [], (h_s.1, zup (zup h_s.2.1 51 (zix x3) ((h_s.2.2.1 (76 + 2 * s_s + 1) (zix x3)).toInt32)) 50 1 (x3 + 1), h_s.2.2.1, h_s.2.2.2)) (gV K_s))) ∧ (¬ (h_s.2.2.1 (76 + 2 * s_s + 1) (zix x3)).toInt < x2_s.toInt → K_s h_s))))) ∧ (¬ x3.toInt < (h_s.2.1 (76 + 2 * s_s) 3).toInt → K_s h_s))) ∧ (¬ x3.toInt < 20 → K_s h_s)) : wF (F_s + 1) 48 (7, [some (.ref 50), some (.ref (76 + 2 * s_s)), some (.int x2_s), some (.int x3), l4, l5], [], h_s) (gV K_s) := by
  refine w_0 (pc := 7) (e_s := (1, 1, 3, 0, 0, .null, [])) (y_s := (8, [some (.ref _), some (.ref _), some (.int _), some (.int _), _, _], [.int _], _)) rfl (u_ rfl) ?_
  refine w_t (pc := 8) (e_s := (3, 1, 0, 0, 0, .null, [])) (y_s := (9, [some (.ref _), some (.ref _), some (.int _), some (.int _), _, _], [.ref _, .int _], _)) rfl (u_ rfl) ?_
  refine w20r (pc := 9) (len_s := 3) (q_s := 51) rfl (krq hk rfl) ?_
  refine w28 (pc := 12) (len_s := 1) rfl (hk.1 51 0 20 rfl rfl) ?_
  refine wi3 (pc := 13) (len_s := 3) (Y := 20) rfl rfl (by decide) (fun c1_s => ?_) (fun c1_s => ?_)
  · replace t_s := t_s.1 c1_s
    refine w_t (pc := 16) (e_s := (1, 1, 3, 0, 0, .null, [])) (y_s := (17, [some (.ref _), some (.ref _), some (.int _), some (.int _), _, _], [.int _], _)) rfl (u_ rfl) ?_
    refine w_t (pc := 17) (e_s := (3, 1, 1, 0, 0, .null, [])) (y_s := (18, [some (.ref _), some (.ref _), some (.int _), some (.int _), _, _], [.ref _, .int _], _)) rfl (u_ rfl) ?_
    refine w20 (pc := 18) (len_s := 3) rfl ?_
    refine wi3 (pc := 21) (len_s := 3) rfl rfl rfl (fun c2_s => ?_) (fun c2_s => ?_)
    · replace t_s := t_s.1 c2_s
      refine w_t (pc := 24) (e_s := (3, 1, 1, 0, 0, .null, [])) (y_s := (25, [some (.ref _), some (.ref _), some (.int _), some (.int _), _, _], [.ref _], _)) rfl (u_ rfl) ?_
      refine w20r (pc := 25) (len_s := 3) (q_s := 76 + 2 * s_s + 1) rfl (kshc hk hs) ?_
      refine w_t (pc := 28) (e_s := (1, 1, 3, 0, 0, .null, [])) (y_s := (29, [some (.ref _), some (.ref _), some (.int _), some (.int _), _, _], [.int _, .ref _], _)) rfl (u_ rfl) ?_
      refine w23 (pc := 29) (len_s := 1) rfl (kshz hk hs) (fun c3_s => ?_)
      replace t_s := t_s c3_s
      refine w_t (pc := 30) (e_s := (5, 2, 4, 0, 0, .null, [])) (y_s := (32, [some (.ref _), some (.ref _), some (.int _), some (.int _), some (.long _), none], [], _)) rfl (u_ rfl) ?_
      refine w_t (pc := 32) (e_s := (2, 2, 4, 0, 0, .null, [])) (y_s := (34, [some (.ref _), some (.ref _), some (.int _), some (.int _), some (.long _), none], [.long _], _)) rfl (u_ rfl) ?_
      refine w_t (pc := 34) (e_s := (0, 1, 0, 0, 0, .long 0, [])) (y_s := (35, [some (.ref _), some (.ref _), some (.int _), some (.int _), some (.long _), none], [.long _, .long _], _)) rfl (u_ rfl) ?_
      refine w_t (pc := 35) (e_s := (14, 1, 0, 0, 0, .null, [])) (y_s := (36, [some (.ref _), some (.ref _), some (.int _), some (.int _), some (.long _), none], [.int (lg_cmp _ _)], _)) rfl (u_ rfl) ?_
      refine wl2 (pc := 36) (len_s := 3) (Y := 0) rfl rfl (by decide) (fun c4_s => ?_) (fun c4_s => ?_)
      · replace t_s := t_s.1 c4_s
        exact wrV (pc := 47) (len_s := 1) rfl hk t_s
      · replace t_s := t_s.2 c4_s
        refine w_t (pc := 39) (e_s := (2, 2, 4, 0, 0, .null, [])) (y_s := (41, [some (.ref _), some (.ref _), some (.int _), some (.int _), some (.long _), none], [.long _], _)) rfl (u_ rfl) ?_
        refine w_t (pc := 41) (e_s := (1, 1, 2, 0, 0, .null, [])) (y_s := (42, [some (.ref _), some (.ref _), some (.int _), some (.int _), some (.long _), none], [.int _, .long _], _)) rfl (u_ rfl) ?_
        refine w_t (pc := 42) (e_s := (10, 1, 0, 0, 0, .null, [])) (y_s := (43, [some (.ref _), some (.ref _), some (.int _), some (.int _), some (.long _), none], [.long (Int32.toInt64 _), .long _], _)) rfl (u_ rfl) ?_
        refine w_t (pc := 43) (e_s := (14, 1, 0, 0, 0, .null, [])) (y_s := (44, [some (.ref _), some (.ref _), some (.int _), some (.int _), some (.long _), none], [.int (lg_cmp _ _)], _)) rfl (u_ rfl) ?_
        refine wl2 (pc := 44) (len_s := 3) rfl rfl (Int32.toInt_toInt64 _) (fun c5_s => ?_) (fun c5_s => ?_)
        · replace t_s := t_s.1 c5_s
          refine w_t (pc := 48) (e_s := (3, 1, 0, 0, 0, .null, [])) (y_s := (49, [some (.ref _), some (.ref _), some (.int _), some (.int _), some (.long _), none], [.ref _], _)) rfl (u_ rfl) ?_
          refine w20r (pc := 49) (len_s := 3) (q_s := 51) rfl (krq hk rfl) ?_
          refine w_t (pc := 52) (e_s := (1, 1, 3, 0, 0, .null, [])) (y_s := (53, [some (.ref _), some (.ref _), some (.int _), some (.int _), some (.long _), none], [.int _, .ref _], _)) rfl (u_ rfl) ?_
          refine w_t (pc := 53) (e_s := (2, 2, 4, 0, 0, .null, [])) (y_s := (55, [some (.ref _), some (.ref _), some (.int _), some (.int _), some (.long _), none], [.long _, .int _, .ref _], _)) rfl (u_ rfl) ?_
          refine w_t (pc := 55) (e_s := (11, 1, 0, 0, 0, .null, [])) (y_s := (56, [some (.ref _), some (.ref _), some (.int _), some (.int _), some (.long _), none], [.int (Int64.toInt32 _), .int _, .ref _], _)) rfl (u_ rfl) ?_
          refine w25 (pc := 56) (len_s := 1) rfl (hk.1 51 0 20 rfl rfl) (fun c6_s => ?_)
          replace t_s := t_s c6_s
          refine w_t (pc := 57) (e_s := (3, 1, 0, 0, 0, .null, [])) (y_s := (58, [some (.ref _), some (.ref _), some (.int _), some (.int _), some (.long _), none], [.ref _], _)) rfl (u_ rfl) ?_
          refine w_t (pc := 58) (e_s := (1, 1, 3, 0, 0, .null, [])) (y_s := (59, [some (.ref _), some (.ref _), some (.int _), some (.int _), some (.long _), none], [.int _, .ref _], _)) rfl (u_ rfl) ?_
          refine w_t (pc := 59) (e_s := (0, 1, 0, 0, 0, .int 1, [])) (y_s := (60, [some (.ref _), some (.ref _), some (.int _), some (.int _), some (.long _), none], [.int _, .int _, .ref _], _)) rfl (u_ rfl) ?_
          refine w_t (pc := 60) (e_s := (7, 1, 0, 0, 0, .null, [])) (y_s := (61, [some (.ref _), some (.ref _), some (.int _), some (.int _), some (.long _), none], [.int (_ + _), .ref _], _)) rfl (u_ rfl) ?_
          refine w21 (pc := 61) (len_s := 3) rfl ?_
          refine w_t (pc := 64) (e_s := (19, 3, 3, 0, 0, .int 1, [])) (y_s := (67, [some (.ref _), some (.ref _), some (.int _), some (.int _), some (.long _), none], [], _)) rfl (u_ rfl) ?_
          refine w_t (pc := 67) (e_s := (17, 3, 7, 0, 0, .null, [])) (y_s := (7, [some (.ref _), some (.ref _), some (.int _), some (.int _), some (.long _), none], [], _)) rfl (u_ rfl) ?_
          exact t_s
        · replace t_s := t_s.2 c5_s
          exact wrV (pc := 47) (len_s := 1) rfl hk t_s
    · replace t_s := t_s.2 c2_s
      exact wrV (pc := 70) (len_s := 1) rfl hk t_s
  · replace t_s := t_s.2 c1_s
    exact wrV (pc := 70) (len_s := 1) rfl hk t_s
/-- ColdShod$Journey.goesStage(ILColdShod$Idea;LColdShod$Country;)Z, from 0 on -/
theorem sg_50_0 {F_s : Nat} {d_s : Nat} {x1_s : Int32} {h_s : zH} {K_s : Int32 → zH → Prop} (hk : hKn h_s) (t_s : (zix x1_s < 20 → (zix (h_s.2.1 51 (zix x1_s)) < 12 → wF F_s 24 (0, [some (.ref 7), some (.ref d_s), some (.ref (28 + (zix (h_s.2.1 51 (zix x1_s))))), none, none], [], h_s) (gI (fun v3 h3 => hKn h3 → (v3.toInt < ((zup h3.2.1 50 2 ((h3.2.1 50 2) + v3)) (28 + (zix (h_s.2.1 51 (zix x1_s)))) 2).toInt → K_s 0 (h3.1, zup h3.2.1 50 2 ((h3.2.1 50 2) + v3), h3.2.2.1, h3.2.2.2)) ∧ (¬ v3.toInt < ((zup h3.2.1 50 2 ((h3.2.1 50 2) + v3)) (28 + (zix (h_s.2.1 51 (zix x1_s)))) 2).toInt → K_s 1 (h3.1, zup (zup h3.2.1 50 2 ((h3.2.1 50 2) + v3)) 50 3 ((h3.2.1 50 3) + 1), h3.2.2.1, h3.2.2.2))))))) : wF (F_s + 1) 50 (0, [some (.ref 50), some (.int x1_s), some (.ref d_s), some (.ref 7), none, none], [], h_s) (gI K_s) := by
  refine w_0 (pc := 0) (e_s := (3, 1, 3, 0, 0, .null, [])) (y_s := (1, [some (.ref _), some (.int _), some (.ref _), some (.ref _), none, none], [.ref _], _)) rfl (u_ rfl) ?_
  refine w20r (pc := 1) (len_s := 3) (q_s := 11) rfl (krq hk rfl) ?_
  refine w_t (pc := 4) (e_s := (3, 1, 0, 0, 0, .null, [])) (y_s := (5, [some (.ref _), some (.int _), some (.ref _), some (.ref _), none, none], [.ref _, .ref _], _)) rfl (u_ rfl) ?_
  refine w20r (pc := 5) (len_s := 3) (q_s := 51) rfl (krq hk rfl) ?_
  refine w_t (pc := 8) (e_s := (1, 1, 1, 0, 0, .null, [])) (y_s := (9, [some (.ref _), some (.int _), some (.ref _), some (.ref _), none, none], [.int _, .ref _, .ref _], _)) rfl (u_ rfl) ?_
  refine w22 (pc := 9) (len_s := 1) rfl (hk.1 51 0 20 rfl rfl) (fun c1_s => ?_)
  replace t_s := t_s c1_s
  refine w24 (g_s := fun j_ => 28 + j_) (pc := 10) (len_s := 1) hk rfl (hk.1 11 3 12 rfl rfl) kg11 (fun c2_s => ?_)
  replace t_s := t_s c2_s
  refine w_t (pc := 11) (e_s := (6, 2, 4, 0, 0, .null, [])) (y_s := (13, [some (.ref _), some (.int _), some (.ref _), some (.ref _), some (.ref _), none], [], _)) rfl (u_ rfl) ?_
  refine w_t (pc := 13) (e_s := (3, 1, 3, 0, 0, .null, [])) (y_s := (14, [some (.ref _), some (.int _), some (.ref _), some (.ref _), some (.ref _), none], [.ref _], _)) rfl (u_ rfl) ?_
  refine w_t (pc := 14) (e_s := (3, 1, 2, 0, 0, .null, [])) (y_s := (15, [some (.ref _), some (.int _), some (.ref _), some (.ref _), some (.ref _), none], [.ref _, .ref _], _)) rfl (u_ rfl) ?_
  refine w_t (pc := 15) (e_s := (3, 2, 4, 0, 0, .null, [])) (y_s := (17, [some (.ref _), some (.int _), some (.ref _), some (.ref _), some (.ref _), none], [.ref _, .ref _, .ref _], _)) rfl (u_ rfl) ?_
  refine wcI (pc := 17) (len_s := 3) rfl rfl (l := [some (.ref _), some (.ref _), some (.ref _), none, none]) rfl (wmI t_s (fun v3 h3 hk t_s => ?_))
  replace t_s := t_s hk
  refine w_t (pc := 20) (e_s := (4, 2, 5, 0, 0, .null, [])) (y_s := (22, [some (.ref _), some (.int _), some (.ref _), some (.ref _), some (.ref _), some (.int _)], [], _)) rfl (u_ rfl) ?_
  refine w_t (pc := 22) (e_s := (3, 1, 0, 0, 0, .null, [])) (y_s := (23, [some (.ref _), some (.int _), some (.ref _), some (.ref _), some (.ref _), some (.int _)], [.ref _], _)) rfl (u_ rfl) ?_
  refine w_t (pc := 23) (e_s := (39, 1, 0, 0, 0, .null, [])) (y_s := (24, [some (.ref _), some (.int _), some (.ref _), some (.ref _), some (.ref _), some (.int _)], [.ref _, .ref _], _)) rfl (u_ rfl) ?_
  refine w20 (pc := 24) (len_s := 3) rfl ?_
  refine w_t (pc := 27) (e_s := (1, 2, 5, 0, 0, .null, [])) (y_s := (29, [some (.ref _), some (.int _), some (.ref _), some (.ref _), some (.ref _), some (.int _)], [.int _, .int _, .ref _], _)) rfl (u_ rfl) ?_
  refine w_t (pc := 29) (e_s := (7, 1, 0, 0, 0, .null, [])) (y_s := (30, [some (.ref _), some (.int _), some (.ref _), some (.ref _), some (.ref _), some (.int _)], [.int (_ + _), .ref _], _)) rfl (u_ rfl) ?_
  refine w21 (pc := 30) (len_s := 3) rfl ?_
  refine w_t (pc := 33) (e_s := (1, 2, 5, 0, 0, .null, [])) (y_s := (35, [some (.ref _), some (.int _), some (.ref _), some (.ref _), some (.ref _), some (.int _)], [.int _], _)) rfl (u_ rfl) ?_
  refine w_t (pc := 35) (e_s := (3, 2, 4, 0, 0, .null, [])) (y_s := (37, [some (.ref _), some (.int _), some (.ref _), some (.ref _), some (.ref _), some (.int _)], [.ref _, .int _], _)) rfl (u_ rfl) ?_
  refine w20 (pc := 37) (len_s := 3) rfl ?_
  refine wi3 (pc := 40) (len_s := 3) rfl rfl rfl (fun c4_s => ?_) (fun c4_s => ?_)
  · replace t_s := t_s.1 c4_s
    refine w_t (pc := 43) (e_s := (0, 1, 0, 0, 0, .int 0, [])) (y_s := (44, [some (.ref _), some (.int _), some (.ref _), some (.ref _), some (.ref _), some (.int _)], [.int _], _)) rfl (u_ rfl) ?_
    exact wrI (pc := 44) (len_s := 1) rfl hk t_s
  · replace t_s := t_s.2 c4_s
    refine w_t (pc := 45) (e_s := (3, 1, 0, 0, 0, .null, [])) (y_s := (46, [some (.ref _), some (.int _), some (.ref _), some (.ref _), some (.ref _), some (.int _)], [.ref _], _)) rfl (u_ rfl) ?_
    refine w_t (pc := 46) (e_s := (39, 1, 0, 0, 0, .null, [])) (y_s := (47, [some (.ref _), some (.int _), some (.ref _), some (.ref _), some (.ref _), some (.int _)], [.ref _, .ref _], _)) rfl (u_ rfl) ?_
    refine w20 (pc := 47) (len_s := 3) rfl ?_
    refine w_t (pc := 50) (e_s := (0, 1, 0, 0, 0, .int 1, [])) (y_s := (51, [some (.ref _), some (.int _), some (.ref _), some (.ref _), some (.ref _), some (.int _)], [.int _, .int _, .ref _], _)) rfl (u_ rfl) ?_
    refine w_t (pc := 51) (e_s := (7, 1, 0, 0, 0, .null, [])) (y_s := (52, [some (.ref _), some (.int _), some (.ref _), some (.ref _), some (.ref _), some (.int _)], [.int (_ + _), .ref _], _)) rfl (u_ rfl) ?_
    refine w21 (pc := 52) (len_s := 3) rfl ?_
    refine w_t (pc := 55) (e_s := (0, 1, 0, 0, 0, .int 1, [])) (y_s := (56, [some (.ref _), some (.int _), some (.ref _), some (.ref _), some (.ref _), some (.int _)], [.int _], _)) rfl (u_ rfl) ?_
    exact wrI (pc := 56) (len_s := 1) rfl hk t_s
/-- ColdShod$Journey.firstWrong(LColdShod$Idea;LColdShod$Shelf;LColdShod$Country;)I, from 0 on -/
theorem sg_51_0 {F_s : Nat} {d_s s_s : Nat} {h_s : zH} {K_s : Int32 → zH → Prop} (hs : s_s < 6) (hk : hKn h_s) (t_s : wF F_s 51 (3, [some (.ref 50), some (.ref d_s), some (.ref (76 + 2 * s_s)), some (.ref 7), some (.int 0), none], [], h_s) (gI K_s)) : wF (F_s + 1) 51 (0, [some (.ref 50), some (.ref d_s), some (.ref (76 + 2 * s_s)), some (.ref 7), none, none], [], h_s) (gI K_s) := by
  refine w_0 (pc := 0) (e_s := (0, 1, 0, 0, 0, .int 0, [])) (y_s := (1, [some (.ref _), some (.ref _), some (.ref _), some (.ref _), none, none], [.int _], _)) rfl (u_ rfl) ?_
  refine w_t (pc := 1) (e_s := (4, 2, 4, 0, 0, .null, [])) (y_s := (3, [some (.ref _), some (.ref _), some (.ref _), some (.ref _), some (.int _), none], [], _)) rfl (u_ rfl) ?_
  exact t_s
/-- ColdShod$Journey.firstWrong(LColdShod$Idea;LColdShod$Shelf;LColdShod$Country;)I, from 3 on -/
theorem sg_51_3 {F_s : Nat} {d_s s_s : Nat} {x4_s : Int32} {l5 : Option Value} {h_s : zH} {K_s : Int32 → zH → Prop} (hs : s_s < 6) (hk : hKn h_s) (t_s : (x4_s.toInt < (h_s.2.1 (76 + 2 * s_s) 3).toInt → ((x4_s.toInt = 0 → wF F_s 51 (46, [some (.ref 50), some (.ref d_s), some (.ref (76 + 2 * s_s)), some (.ref 7), some (.int x4_s), some (.int 1)], [], h_s) (gI K_s)) ∧ (¬ x4_s.toInt = 0 → (((h_s.2.1 50 1).toInt < x4_s.toInt → wF F_s 51 (46, [some (.ref 50), some (.ref d_s), some (.ref (76 + 2 * s_s)), some (.ref 7), some (.int x4_s), some (.int 0)], [], h_s) (gI K_s)) ∧ (¬ (h_s.2.1 50 1).toInt < x4_s.toInt → wF F_s 50 (0, [some (.ref 50), some (.int (x4_s - 1)), some (.ref d_s), some (.ref 7), none, none], [], h_s) (gI (fun v4_s h4 => hKn h4 → (v4_s.toInt = 0 → wF F_s 51 (46, [some (.ref 50), some (.ref d_s), some (.ref (76 + 2 * s_s)), some (.ref 7), some (.int x4_s), some (.int 0)], [], h4) (gI K_s)) ∧ (¬ v4_s.toInt = 0 → wF F_s 51 (46, [some (.ref 50), some (.ref d_s), some (.ref (76 + 2 * s_s)), some (.ref 7), some (.int x4_s), some (.int 1)], [], h4) (gI K_s))))))))) ∧ (¬ x4_s.toInt < (h_s.2.1 (76 + 2 * s_s) 3).toInt → K_s (-2) h_s)) : wF (F_s + 1) 51 (3, [some (.ref 50), some (.ref d_s), some (.ref (76 + 2 * s_s)), some (.ref 7), some (.int x4_s), l5], [], h_s) (gI K_s) := by
  refine w_0 (pc := 3) (e_s := (1, 2, 4, 0, 0, .null, [])) (y_s := (5, [some (.ref _), some (.ref _), some (.ref _), some (.ref _), some (.int _), _], [.int _], _)) rfl (u_ rfl) ?_
  refine w_t (pc := 5) (e_s := (3, 1, 2, 0, 0, .null, [])) (y_s := (6, [some (.ref _), some (.ref _), some (.ref _), some (.ref _), some (.int _), _], [.ref _, .int _], _)) rfl (u_ rfl) ?_
  refine w20 (pc := 6) (len_s := 3) rfl ?_
  refine wi3 (pc := 9) (len_s := 3) rfl rfl rfl (fun c1_s => ?_) (fun c1_s => ?_)
  · replace t_s := t_s.1 c1_s
    refine w_t (pc := 12) (e_s := (1, 2, 4, 0, 0, .null, [])) (y_s := (14, [some (.ref _), some (.ref _), some (.ref _), some (.ref _), some (.int _), _], [.int _], _)) rfl (u_ rfl) ?_
    refine wq0 (pc := 14) (len_s := 3) rfl rfl (fun c2_s => ?_) (fun c2_s => ?_)
    · replace t_s := t_s.1 c2_s
      refine w_t (pc := 39) (e_s := (0, 1, 0, 0, 0, .int 1, [])) (y_s := (40, [some (.ref _), some (.ref _), some (.ref _), some (.ref _), some (.int _), _], [.int _], _)) rfl (u_ rfl) ?_
      refine w_t (pc := 40) (e_s := (17, 3, 44, 0, 0, .null, [])) (y_s := (44, [some (.ref _), some (.ref _), some (.ref _), some (.ref _), some (.int _), _], [.int _], _)) rfl (u_ rfl) ?_
      refine w_t (pc := 44) (e_s := (4, 2, 5, 0, 0, .null, [])) (y_s := (46, [some (.ref _), some (.ref _), some (.ref _), some (.ref _), some (.int _), some (.int _)], [], _)) rfl (u_ rfl) ?_
      exact t_s
    · replace t_s := t_s.2 c2_s
      refine w_t (pc := 17) (e_s := (1, 2, 4, 0, 0, .null, [])) (y_s := (19, [some (.ref _), some (.ref _), some (.ref _), some (.ref _), some (.int _), _], [.int _], _)) rfl (u_ rfl) ?_
      refine w_t (pc := 19) (e_s := (3, 1, 0, 0, 0, .null, [])) (y_s := (20, [some (.ref _), some (.ref _), some (.ref _), some (.ref _), some (.int _), _], [.ref _, .int _], _)) rfl (u_ rfl) ?_
      refine w20 (pc := 20) (len_s := 3) rfl ?_
      refine wi4 (pc := 23) (len_s := 3) rfl rfl rfl (fun c3_s => ?_) (fun c3_s => ?_)
      · replace t_s := t_s.1 c3_s
        refine w_t (pc := 43) (e_s := (0, 1, 0, 0, 0, .int 0, [])) (y_s := (44, [some (.ref _), some (.ref _), some (.ref _), some (.ref _), some (.int _), _], [.int _], _)) rfl (u_ rfl) ?_
        refine w_t (pc := 44) (e_s := (4, 2, 5, 0, 0, .null, [])) (y_s := (46, [some (.ref _), some (.ref _), some (.ref _), some (.ref _), some (.int _), some (.int _)], [], _)) rfl (u_ rfl) ?_
        exact t_s
      · replace t_s := t_s.2 c3_s
        refine w_t (pc := 26) (e_s := (3, 1, 0, 0, 0, .null, [])) (y_s := (27, [some (.ref _), some (.ref _), some (.ref _), some (.ref _), some (.int _), _], [.ref _], _)) rfl (u_ rfl) ?_
        refine w_t (pc := 27) (e_s := (1, 2, 4, 0, 0, .null, [])) (y_s := (29, [some (.ref _), some (.ref _), some (.ref _), some (.ref _), some (.int _), _], [.int _, .ref _], _)) rfl (u_ rfl) ?_
        refine w_t (pc := 29) (e_s := (0, 1, 0, 0, 0, .int 1, [])) (y_s := (30, [some (.ref _), some (.ref _), some (.ref _), some (.ref _), some (.int _), _], [.int _, .int _, .ref _], _)) rfl (u_ rfl) ?_
        refine w_t (pc := 30) (e_s := (7, 1, 0, 1, 0, .null, [])) (y_s := (31, [some (.ref _), some (.ref _), some (.ref _), some (.ref _), some (.int _), _], [.int (_ - _), .ref _], _)) rfl (u_ rfl) ?_
        refine w_t (pc := 31) (e_s := (3, 1, 1, 0, 0, .null, [])) (y_s := (32, [some (.ref _), some (.ref _), some (.ref _), some (.ref _), some (.int _), _], [.ref _, .int _, .ref _], _)) rfl (u_ rfl) ?_
        refine w_t (pc := 32) (e_s := (3, 1, 3, 0, 0, .null, [])) (y_s := (33, [some (.ref _), some (.ref _), some (.ref _), some (.ref _), some (.int _), _], [.ref _, .ref _, .int _, .ref _], _)) rfl (u_ rfl) ?_
        refine wcI (pc := 33) (len_s := 3) rfl rfl (l := [some (.ref _), some (.int _), some (.ref _), some (.ref _), none, none]) rfl (wmI t_s (fun v4_s h4 hk t_s => ?_))
        replace t_s := t_s hk
        refine wq0 (pc := 36) (len_s := 3) rfl rfl (fun c5_s => ?_) (fun c5_s => ?_)
        · replace t_s := t_s.1 c5_s
          refine w_t (pc := 43) (e_s := (0, 1, 0, 0, 0, .int 0, [])) (y_s := (44, [some (.ref _), some (.ref _), some (.ref _), some (.ref _), some (.int _), _], [.int _], _)) rfl (u_ rfl) ?_
          refine w_t (pc := 44) (e_s := (4, 2, 5, 0, 0, .null, [])) (y_s := (46, [some (.ref _), some (.ref _), some (.ref _), some (.ref _), some (.int _), some (.int _)], [], _)) rfl (u_ rfl) ?_
          exact t_s
        · replace t_s := t_s.2 c5_s
          refine w_t (pc := 39) (e_s := (0, 1, 0, 0, 0, .int 1, [])) (y_s := (40, [some (.ref _), some (.ref _), some (.ref _), some (.ref _), some (.int _), _], [.int _], _)) rfl (u_ rfl) ?_
          refine w_t (pc := 40) (e_s := (17, 3, 44, 0, 0, .null, [])) (y_s := (44, [some (.ref _), some (.ref _), some (.ref _), some (.ref _), some (.int _), _], [.int _], _)) rfl (u_ rfl) ?_
          refine w_t (pc := 44) (e_s := (4, 2, 5, 0, 0, .null, [])) (y_s := (46, [some (.ref _), some (.ref _), some (.ref _), some (.ref _), some (.int _), some (.int _)], [], _)) rfl (u_ rfl) ?_
          exact t_s
  · replace t_s := t_s.2 c1_s
    refine w_t (pc := 76) (e_s := (0, 2, 0, 0, 0, .int (-2), [])) (y_s := (78, [some (.ref _), some (.ref _), some (.ref _), some (.ref _), some (.int _), _], [.int _], _)) rfl (u_ rfl) ?_
    exact wrI (pc := 78) (len_s := 1) rfl hk t_s
/-- ColdShod$Journey.firstWrong(LColdShod$Idea;LColdShod$Shelf;LColdShod$Country;)I, from 46 on -/
theorem sg_51_46 {F_s : Nat} {d_s s_s : Nat} {x4_s x5_s : Int32} {h_s : zH} {K_s : Int32 → zH → Prop} (hs : s_s < 6) (hk : hKn h_s) (t_s : (x5_s.toInt = 0 → K_s x4_s h_s) ∧ (¬ x5_s.toInt = 0 → (zix x4_s < 60 → ((h_s.2.2.1 (76 + 2 * s_s + 1) (zix x4_s)).toInt = (h_s.2.1 d_s 2).toInt → wF F_s 51 (3, [some (.ref 50), some (.ref d_s), some (.ref (76 + 2 * s_s)), some (.ref 7), some (.int (x4_s + 1)), some (.int x5_s)], [], h_s) (gI K_s)) ∧ (¬ (h_s.2.2.1 (76 + 2 * s_s + 1) (zix x4_s)).toInt = (h_s.2.1 d_s 2).toInt → K_s x4_s h_s)))) : wF (F_s + 1) 51 (46, [some (.ref 50), some (.ref d_s), some (.ref (76 + 2 * s_s)), some (.ref 7), some (.int x4_s), some (.int x5_s)], [], h_s) (gI K_s) := by
  refine w_0 (pc := 46) (e_s := (1, 2, 5, 0, 0, .null, [])) (y_s := (48, [some (.ref _), some (.ref _), some (.ref _), some (.ref _), some (.int _), some (.int _)], [.int _], _)) rfl (u_ rfl) ?_
  refine wq0 (pc := 48) (len_s := 3) rfl rfl (fun c1_s => ?_) (fun c1_s => ?_)
  · replace t_s := t_s.1 c1_s
    refine w_t (pc := 67) (e_s := (1, 2, 4, 0, 0, .null, [])) (y_s := (69, [some (.ref _), some (.ref _), some (.ref _), some (.ref _), some (.int _), some (.int _)], [.int _], _)) rfl (u_ rfl) ?_
    exact wrI (pc := 69) (len_s := 1) rfl hk t_s
  · replace t_s := t_s.2 c1_s
    refine w_t (pc := 51) (e_s := (3, 1, 2, 0, 0, .null, [])) (y_s := (52, [some (.ref _), some (.ref _), some (.ref _), some (.ref _), some (.int _), some (.int _)], [.ref _], _)) rfl (u_ rfl) ?_
    refine w20r (pc := 52) (len_s := 3) (q_s := 76 + 2 * s_s + 1) rfl (kshc hk hs) ?_
    refine w_t (pc := 55) (e_s := (1, 2, 4, 0, 0, .null, [])) (y_s := (57, [some (.ref _), some (.ref _), some (.ref _), some (.ref _), some (.int _), some (.int _)], [.int _, .ref _], _)) rfl (u_ rfl) ?_
    refine w23 (pc := 57) (len_s := 1) rfl (kshz hk hs) (fun c2_s => ?_)
    replace t_s := t_s c2_s
    refine w_t (pc := 58) (e_s := (3, 1, 1, 0, 0, .null, [])) (y_s := (59, [some (.ref _), some (.ref _), some (.ref _), some (.ref _), some (.int _), some (.int _)], [.ref _, .long _], _)) rfl (u_ rfl) ?_
    refine w20 (pc := 59) (len_s := 3) rfl ?_
    refine w_t (pc := 62) (e_s := (10, 1, 0, 0, 0, .null, [])) (y_s := (63, [some (.ref _), some (.ref _), some (.ref _), some (.ref _), some (.int _), some (.int _)], [.long (Int32.toInt64 _), .long _], _)) rfl (u_ rfl) ?_
    refine w_t (pc := 63) (e_s := (14, 1, 0, 0, 0, .null, [])) (y_s := (64, [some (.ref _), some (.ref _), some (.ref _), some (.ref _), some (.int _), some (.int _)], [.int (lg_cmp _ _)], _)) rfl (u_ rfl) ?_
    refine wl0 (pc := 64) (len_s := 3) rfl rfl (Int32.toInt_toInt64 _) (fun c3_s => ?_) (fun c3_s => ?_)
    · replace t_s := t_s.1 c3_s
      refine w_t (pc := 70) (e_s := (19, 3, 4, 0, 0, .int 1, [])) (y_s := (73, [some (.ref _), some (.ref _), some (.ref _), some (.ref _), some (.int _), some (.int _)], [], _)) rfl (u_ rfl) ?_
      refine w_t (pc := 73) (e_s := (17, 3, 3, 0, 0, .null, [])) (y_s := (3, [some (.ref _), some (.ref _), some (.ref _), some (.ref _), some (.int _), some (.int _)], [], _)) rfl (u_ rfl) ?_
      exact t_s
    · replace t_s := t_s.2 c3_s
      refine w_t (pc := 67) (e_s := (1, 2, 4, 0, 0, .null, [])) (y_s := (69, [some (.ref _), some (.ref _), some (.ref _), some (.ref _), some (.int _), some (.int _)], [.int _], _)) rfl (u_ rfl) ?_
      exact wrI (pc := 69) (len_s := 1) rfl hk t_s
/-- ColdShod$Journey.allGone(LColdShod$Idea;LColdShod$Country;)Z, from 0 on -/
theorem sg_49_0 {F_s : Nat} {d_s : Nat} {h_s : zH} {K_s : Int32 → zH → Prop} (hk : hKn h_s) (t_s : wF F_s 49 (12, [some (.ref 50), some (.ref d_s), some (.ref 7), some (.int 0)], [], (h_s.1, zup (zup h_s.2.1 50 2 0) 50 3 0, h_s.2.2.1, h_s.2.2.2)) (gI K_s)) : wF (F_s + 1) 49 (0, [some (.ref 50), some (.ref d_s), some (.ref 7), none], [], h_s) (gI K_s) := by
  refine w_0 (pc := 0) (e_s := (3, 1, 0, 0, 0, .null, [])) (y_s := (1, [some (.ref _), some (.ref _), some (.ref _), none], [.ref _], _)) rfl (u_ rfl) ?_
  refine w_t (pc := 1) (e_s := (0, 1, 0, 0, 0, .int 0, [])) (y_s := (2, [some (.ref _), some (.ref _), some (.ref _), none], [.int _, .ref _], _)) rfl (u_ rfl) ?_
  refine w21 (pc := 2) (len_s := 3) rfl ?_
  refine w_t (pc := 5) (e_s := (3, 1, 0, 0, 0, .null, [])) (y_s := (6, [some (.ref _), some (.ref _), some (.ref _), none], [.ref _], _)) rfl (u_ rfl) ?_
  refine w_t (pc := 6) (e_s := (0, 1, 0, 0, 0, .int 0, [])) (y_s := (7, [some (.ref _), some (.ref _), some (.ref _), none], [.int _, .ref _], _)) rfl (u_ rfl) ?_
  refine w21 (pc := 7) (len_s := 3) rfl ?_
  refine w_t (pc := 10) (e_s := (0, 1, 0, 0, 0, .int 0, [])) (y_s := (11, [some (.ref _), some (.ref _), some (.ref _), none], [.int _], _)) rfl (u_ rfl) ?_
  refine w_t (pc := 11) (e_s := (4, 1, 3, 0, 0, .null, [])) (y_s := (12, [some (.ref _), some (.ref _), some (.ref _), some (.int _)], [], _)) rfl (u_ rfl) ?_
  exact t_s
/-- ColdShod$Journey.allGone(LColdShod$Idea;LColdShod$Country;)Z, from 12 on -/
theorem sg_49_12 {F_s : Nat} {d_s : Nat} {x3 : Int32} {h_s : zH} {K_s : Int32 → zH → Prop} (hk : hKn h_s) (t_s : (x3.toInt < (h_s.2.1 50 1).toInt → wF F_s 50 (0, [some (.ref 50), some (.int x3), some (.ref d_s), some (.ref 7), none, none], [], h_s) (gI (fun v2 h2 => hKn h2 → (v2.toInt = 0 → K_s 0 h2) ∧ (¬ v2.toInt = 0 → wF F_s 49 (12, [some (.ref 50), some (.ref d_s), some (.ref 7), some (.int (x3 + 1))], [], h2) (gI K_s))))) ∧ (¬ x3.toInt < (h_s.2.1 50 1).toInt → K_s 1 h_s)) : wF (F_s + 1) 49 (12, [some (.ref 50), some (.ref d_s), some (.ref 7), some (.int x3)], [], h_s) (gI K_s) := by
  refine w_0 (pc := 12) (e_s := (1, 1, 3, 0, 0, .null, [])) (y_s := (13, [some (.ref _), some (.ref _), some (.ref _), some (.int _)], [.int _], _)) rfl (u_ rfl) ?_
  refine w_t (pc := 13) (e_s := (3, 1, 0, 0, 0, .null, [])) (y_s := (14, [some (.ref _), some (.ref _), some (.ref _), some (.int _)], [.ref _, .int _], _)) rfl (u_ rfl) ?_
  refine w20 (pc := 14) (len_s := 3) rfl ?_
  refine wi3 (pc := 17) (len_s := 3) rfl rfl rfl (fun c1_s => ?_) (fun c1_s => ?_)
  · replace t_s := t_s.1 c1_s
    refine w_t (pc := 20) (e_s := (3, 1, 0, 0, 0, .null, [])) (y_s := (21, [some (.ref _), some (.ref _), some (.ref _), some (.int _)], [.ref _], _)) rfl (u_ rfl) ?_
    refine w_t (pc := 21) (e_s := (1, 1, 3, 0, 0, .null, [])) (y_s := (22, [some (.ref _), some (.ref _), some (.ref _), some (.int _)], [.int _, .ref _], _)) rfl (u_ rfl) ?_
    refine w_t (pc := 22) (e_s := (3, 1, 1, 0, 0, .null, [])) (y_s := (23, [some (.ref _), some (.ref _), some (.ref _), some (.int _)], [.ref _, .int _, .ref _], _)) rfl (u_ rfl) ?_
    refine w_t (pc := 23) (e_s := (3, 1, 2, 0, 0, .null, [])) (y_s := (24, [some (.ref _), some (.ref _), some (.ref _), some (.int _)], [.ref _, .ref _, .int _, .ref _], _)) rfl (u_ rfl) ?_
    refine wcI (pc := 24) (len_s := 3) rfl rfl (l := [some (.ref _), some (.int _), some (.ref _), some (.ref _), none, none]) rfl (wmI t_s (fun v2 h2 hk t_s => ?_))
    replace t_s := t_s hk
    refine wq1 (pc := 27) (len_s := 3) rfl rfl (fun c3_s => ?_) (fun c3_s => ?_)
    · replace t_s := t_s.1 c3_s
      refine w_t (pc := 30) (e_s := (0, 1, 0, 0, 0, .int 0, [])) (y_s := (31, [some (.ref _), some (.ref _), some (.ref _), some (.int _)], [.int _], _)) rfl (u_ rfl) ?_
      exact wrI (pc := 31) (len_s := 1) rfl hk t_s
    · replace t_s := t_s.2 c3_s
      refine w_t (pc := 32) (e_s := (19, 3, 3, 0, 0, .int 1, [])) (y_s := (35, [some (.ref _), some (.ref _), some (.ref _), some (.int _)], [], _)) rfl (u_ rfl) ?_
      refine w_t (pc := 35) (e_s := (17, 3, 12, 0, 0, .null, [])) (y_s := (12, [some (.ref _), some (.ref _), some (.ref _), some (.int _)], [], _)) rfl (u_ rfl) ?_
      exact t_s
  · replace t_s := t_s.2 c1_s
    refine w_t (pc := 38) (e_s := (0, 1, 0, 0, 0, .int 1, [])) (y_s := (39, [some (.ref _), some (.ref _), some (.ref _), some (.int _)], [.int _], _)) rfl (u_ rfl) ?_
    exact wrI (pc := 39) (len_s := 1) rfl hk t_s
/-- ColdShod.refusalOfBytes(LColdShod$Shelf;)I, from 0 on -/
theorem sg_140_0 {F_s : Nat} {s_s : Nat} {h_s : zH} {K_s : Int32 → zH → Prop} (hs : s_s < 6) (hk : hKn h_s) (t_s : ((h_s.2.1 (76 + 2 * s_s) 0).toInt = 0 → K_s (-11) h_s) ∧ (¬ (h_s.2.1 (76 + 2 * s_s) 0).toInt = 0 → (((h_s.2.1 (76 + 2 * s_s) 0).toInt = 2 → (((h_s.2.1 (76 + 2 * s_s) 2).toInt = 0 → K_s 0 h_s) ∧ (¬ (h_s.2.1 (76 + 2 * s_s) 2).toInt = 0 → K_s (-12) h_s))) ∧ (¬ (h_s.2.1 (76 + 2 * s_s) 0).toInt = 2 → K_s (-12) h_s)))) : wF (F_s + 1) 140 (0, [some (.ref (76 + 2 * s_s))], [], h_s) (gI K_s) := by
  refine w_0 (pc := 0) (e_s := (3, 1, 0, 0, 0, .null, [])) (y_s := (1, [some (.ref _)], [.ref _], _)) rfl (u_ rfl) ?_
  refine w20 (pc := 1) (len_s := 3) rfl ?_
  refine wq1 (pc := 4) (len_s := 3) rfl rfl (fun c1_s => ?_) (fun c1_s => ?_)
  · replace t_s := t_s.1 c1_s
    refine w_t (pc := 7) (e_s := (0, 2, 0, 0, 0, .int (-11), [])) (y_s := (9, [some (.ref _)], [.int _], _)) rfl (u_ rfl) ?_
    exact wrI (pc := 9) (len_s := 1) rfl hk t_s
  · replace t_s := t_s.2 c1_s
    refine w_t (pc := 10) (e_s := (3, 1, 0, 0, 0, .null, [])) (y_s := (11, [some (.ref _)], [.ref _], _)) rfl (u_ rfl) ?_
    refine wcI (pc := 11) (len_s := 3) rfl rfl (l := [some (.ref _)]) rfl ?_
    refine w_t (pc := 0) (e_s := (3, 1, 0, 0, 0, .null, [])) (y_s := (1, [some (.ref _)], [.ref _], _)) rfl (u_ rfl) ?_
    refine w20 (pc := 1) (len_s := 3) rfl ?_
    refine w_t (pc := 4) (e_s := (0, 1, 0, 0, 0, .int 2, [])) (y_s := (5, [some (.ref _)], [.int _, .int _], _)) rfl (u_ rfl) ?_
    refine wi1 (pc := 5) (len_s := 3) (Y := 2) rfl rfl (by decide) (fun c2_s => ?_) (fun c2_s => ?_)
    · replace t_s := t_s.1 c2_s
      refine w_t (pc := 8) (e_s := (3, 1, 0, 0, 0, .null, [])) (y_s := (9, [some (.ref _)], [.ref _], _)) rfl (u_ rfl) ?_
      refine w20 (pc := 9) (len_s := 3) rfl ?_
      refine wq1 (pc := 12) (len_s := 3) rfl rfl (fun c3_s => ?_) (fun c3_s => ?_)
      · replace t_s := t_s.1 c3_s
        refine w_t (pc := 15) (e_s := (0, 1, 0, 0, 0, .int 1, [])) (y_s := (16, [some (.ref _)], [.int _], _)) rfl (u_ rfl) ?_
        refine w_t (pc := 16) (e_s := (17, 3, 20, 0, 0, .null, [])) (y_s := (20, [some (.ref _)], [.int _], _)) rfl (u_ rfl) ?_
        refine wrI (pc := 20) (len_s := 1) rfl hk ?_
        show wF _ 140 (14, [some (.ref _)], [.int _], _) _
        refine w_t (pc := 14) (e_s := (15, 3, 21, 0, 0, .null, [])) (y_s := (17, [some (.ref _)], [], _)) rfl (u_ rfl) ?_
        refine w_t (pc := 17) (e_s := (0, 1, 0, 0, 0, .int 0, [])) (y_s := (18, [some (.ref _)], [.int _], _)) rfl (u_ rfl) ?_
        refine w_t (pc := 18) (e_s := (17, 3, 23, 0, 0, .null, [])) (y_s := (23, [some (.ref _)], [.int _], _)) rfl (u_ rfl) ?_
        exact wrI (pc := 23) (len_s := 1) rfl hk t_s
      · replace t_s := t_s.2 c3_s
        refine w_t (pc := 19) (e_s := (0, 1, 0, 0, 0, .int 0, [])) (y_s := (20, [some (.ref _)], [.int _], _)) rfl (u_ rfl) ?_
        refine wrI (pc := 20) (len_s := 1) rfl hk ?_
        show wF _ 140 (14, [some (.ref _)], [.int _], _) _
        refine w_t (pc := 14) (e_s := (15, 3, 21, 0, 0, .null, [])) (y_s := (21, [some (.ref _)], [], _)) rfl (u_ rfl) ?_
        refine w_t (pc := 21) (e_s := (0, 2, 0, 0, 0, .int (-12), [])) (y_s := (23, [some (.ref _)], [.int _], _)) rfl (u_ rfl) ?_
        exact wrI (pc := 23) (len_s := 1) rfl hk t_s
    · replace t_s := t_s.2 c2_s
      refine w_t (pc := 19) (e_s := (0, 1, 0, 0, 0, .int 0, [])) (y_s := (20, [some (.ref _)], [.int _], _)) rfl (u_ rfl) ?_
      refine wrI (pc := 20) (len_s := 1) rfl hk ?_
      show wF _ 140 (14, [some (.ref _)], [.int _], _) _
      refine w_t (pc := 14) (e_s := (15, 3, 21, 0, 0, .null, [])) (y_s := (21, [some (.ref _)], [], _)) rfl (u_ rfl) ?_
      refine w_t (pc := 21) (e_s := (0, 2, 0, 0, 0, .int (-12), [])) (y_s := (23, [some (.ref _)], [.int _], _)) rfl (u_ rfl) ?_
      exact wrI (pc := 23) (len_s := 1) rfl hk t_s
/-- ColdShod.thoughtOf(I)LColdShod$Idea;, from 0 on -/
theorem sg_139_0 {F_s : Nat} {x1_s : Int32} {h_s : zH} {K_s : Nat → zH → Prop} (hk : hKn h_s) (t_s : (zix x1_s < 8 → wF F_s 35 (0, [some (.ref 88), some (.ref (20 + (zix x1_s)))], [], h_s) (gV (fun h3 => hKn h3 → K_s 88 h3)))) : wF (F_s + 1) 139 (0, [some (.ref 6), some (.int x1_s)], [], h_s) (gR K_s) := by
  refine w_0 (pc := 0) (e_s := (3, 1, 0, 0, 0, .null, [])) (y_s := (1, [some (.ref _), some (.int _)], [.ref _], _)) rfl (u_ rfl) ?_
  refine w20r (pc := 1) (len_s := 3) (q_s := 72) rfl (krq hk rfl) ?_
  refine w_t (pc := 4) (e_s := (0, 1, 0, 0, 0, .int 0, [])) (y_s := (5, [some (.ref _), some (.int _)], [.int _, .ref _], _)) rfl (u_ rfl) ?_
  refine w24 (g_s := fun j_ => 88 + j_) (pc := 5) (len_s := 1) hk rfl (hk.1 72 2 6 rfl rfl) kg72 (fun c1_s => ?_)
  show wF _ _ (_, _, [.ref 88], _) _
  refine w_t (pc := 6) (e_s := (3, 1, 0, 0, 0, .null, [])) (y_s := (7, [some (.ref _), some (.int _)], [.ref _, .ref _], _)) rfl (u_ rfl) ?_
  refine w20r (pc := 7) (len_s := 3) (q_s := 7) rfl (krq hk rfl) ?_
  refine w20r (pc := 10) (len_s := 3) (q_s := 10) rfl (krq hk rfl) ?_
  refine w_t (pc := 13) (e_s := (1, 1, 1, 0, 0, .null, [])) (y_s := (14, [some (.ref _), some (.int _)], [.int _, .ref _, .ref _], _)) rfl (u_ rfl) ?_
  refine w24 (g_s := fun j_ => 20 + j_) (pc := 14) (len_s := 1) hk rfl (hk.1 10 2 8 rfl rfl) kg10 (fun c2_s => ?_)
  replace t_s := t_s c2_s
  refine wcV (pc := 15) (len_s := 3) rfl rfl (l := [some (.ref _), some (.ref _)]) rfl (wmV t_s (fun h3 hk t_s => ?_))
  replace t_s := t_s hk
  refine w_t (pc := 18) (e_s := (3, 1, 0, 0, 0, .null, [])) (y_s := (19, [some (.ref _), some (.int _)], [.ref _], _)) rfl (u_ rfl) ?_
  refine w20r (pc := 19) (len_s := 3) (q_s := 72) rfl (krq hk rfl) ?_
  refine w_t (pc := 22) (e_s := (0, 1, 0, 0, 0, .int 0, [])) (y_s := (23, [some (.ref _), some (.int _)], [.int _, .ref _], _)) rfl (u_ rfl) ?_
  refine w24 (g_s := fun j_ => 88 + j_) (pc := 23) (len_s := 1) hk rfl (hk.1 72 2 6 rfl rfl) kg72 (fun c4_s => ?_)
  show wF _ _ (_, _, [.ref 88], _) _
  exact wrR (pc := 24) (len_s := 1) rfl hk t_s
/-- ColdShod.judge(II)I, from 0 on -/
theorem sg_110_0 {F_s : Nat} {x1_s : Int32} {x2_s : Int32} {h_s : zH} {K_s : Int32 → zH → Prop} (hk : hKn h_s) (t_s : (x1_s.toInt < 0 → K_s (-1) h_s) ∧ (¬ x1_s.toInt < 0 → (((x1_s / 10).toInt < 0 → K_s (-1) h_s) ∧ (¬ (x1_s / 10).toInt < 0 → (((x1_s / 10).toInt < 6 → (((x1_s - x1_s / 10 * 10).toInt < 0 → K_s (-1) h_s) ∧ (¬ (x1_s - x1_s / 10 * 10).toInt < 0 → (((x1_s - x1_s / 10 * 10).toInt < 6 → ((x2_s.toInt < 0 → K_s (-1) h_s) ∧ (¬ x2_s.toInt < 0 → ((x2_s.toInt < (h_s.2.1 7 7).toInt → (zix (x1_s / 10) < 6 → wF F_s 140 (0, [some (.ref (76 + 2 * (zix (x1_s / 10))))], [], h_s) (gI (fun v9 h9 => hKn h9 → (v9.toInt = 0 → (zix (x1_s - x1_s / 10 * 10) < 6 → wF F_s 140 (0, [some (.ref (76 + 2 * (zix (x1_s - x1_s / 10 * 10))))], [], h9) (gI (fun v12 h12 => hKn h12 → (v12.toInt = 0 → wF F_s 48 (0, [some (.ref 50), some (.ref (76 + 2 * (zix (x1_s / 10)))), some (.int (h12.2.1 7 8)), none, none, none], [], h12) (gV (fun h15 => hKn h15 → wF F_s 139 (0, [some (.ref 6), some (.int x2_s)], [], h15) (gR (fun v16 h16_s => hKn h16_s → wF F_s 51 (0, [some (.ref 50), some (.ref v16), some (.ref (76 + 2 * (zix (x1_s - x1_s / 10 * 10)))), some (.ref 7), none, none], [], h16_s) (gI (fun v18 h18 => hKn h18 → K_s v18 h18))))))) ∧ (¬ v12.toInt = 0 → K_s v12 h12))))) ∧ (¬ v9.toInt = 0 → K_s v9 h9))))) ∧ (¬ x2_s.toInt < (h_s.2.1 7 7).toInt → K_s (-1) h_s))))) ∧ (¬ (x1_s - x1_s / 10 * 10).toInt < 6 → K_s (-1) h_s))))) ∧ (¬ (x1_s / 10).toInt < 6 → K_s (-1) h_s)))))) : wF (F_s + 1) 110 (0, [some (.ref 6), some (.int x1_s), some (.int x2_s), none], [], h_s) (gI K_s) := by
  refine w_0 (pc := 0) (e_s := (1, 1, 1, 0, 0, .null, [])) (y_s := (1, [some (.ref _), some (.int _), some (.int _), none], [.int _], _)) rfl (u_ rfl) ?_
  refine wcI (pc := 1) (len_s := 3) rfl rfl (l := [some (.int _)]) rfl ?_
  refine w_t (pc := 0) (e_s := (1, 1, 0, 0, 0, .null, [])) (y_s := (1, [some (.int _)], [.int _], _)) rfl (u_ rfl) ?_
  refine wq2 (pc := 1) (len_s := 3) rfl rfl (fun c1_s => ?_) (fun c1_s => ?_)
  · replace t_s := t_s.1 c1_s
    refine w_t (pc := 28) (e_s := (0, 1, 0, 0, 0, .int 0, [])) (y_s := (29, [some (.int _)], [.int _], _)) rfl (u_ rfl) ?_
    refine wrI (pc := 29) (len_s := 1) rfl hk ?_
    show wF _ 110 (4, [some (.ref _), some (.int _), some (.int _), none], [.int _], _) _
    refine w_t (pc := 4) (e_s := (15, 3, 18, 0, 0, .null, [])) (y_s := (18, [some (.ref _), some (.int _), some (.int _), none], [], _)) rfl (u_ rfl) ?_
    refine w_t (pc := 18) (e_s := (0, 1, 0, 0, 0, .int (-1), [])) (y_s := (19, [some (.ref _), some (.int _), some (.int _), none], [.int _], _)) rfl (u_ rfl) ?_
    exact wrI (pc := 19) (len_s := 1) rfl hk t_s
  · replace t_s := t_s.2 c1_s
    refine w_t (pc := 4) (e_s := (1, 1, 0, 0, 0, .null, [])) (y_s := (5, [some (.int _)], [.int _], _)) rfl (u_ rfl) ?_
    refine w_t (pc := 5) (e_s := (0, 2, 0, 0, 0, .int 10, [])) (y_s := (7, [some (.int _)], [.int _, .int _], _)) rfl (u_ rfl) ?_
    refine w8 (pc := 7) (len_s := 1) rfl ?_
    refine wcI (pc := 8) (len_s := 3) rfl rfl (l := [some (.int _)]) rfl ?_
    refine w_t (pc := 0) (e_s := (1, 1, 0, 0, 0, .null, [])) (y_s := (1, [some (.int _)], [.int _], _)) rfl (u_ rfl) ?_
    refine wq2 (pc := 1) (len_s := 3) rfl rfl (fun c2_s => ?_) (fun c2_s => ?_)
    · replace t_s := t_s.1 c2_s
      refine w_t (pc := 14) (e_s := (0, 1, 0, 0, 0, .int 0, [])) (y_s := (15, [some (.int _)], [.int _], _)) rfl (u_ rfl) ?_
      refine wrI (pc := 15) (len_s := 1) rfl hk ?_
      show wF _ 136 (11, [some (.int _)], [.int _], _) _
      refine w_t (pc := 11) (e_s := (15, 3, 28, 0, 0, .null, [])) (y_s := (28, [some (.int _)], [], _)) rfl (u_ rfl) ?_
      refine w_t (pc := 28) (e_s := (0, 1, 0, 0, 0, .int 0, [])) (y_s := (29, [some (.int _)], [.int _], _)) rfl (u_ rfl) ?_
      refine wrI (pc := 29) (len_s := 1) rfl hk ?_
      show wF _ 110 (4, [some (.ref _), some (.int _), some (.int _), none], [.int _], _) _
      refine w_t (pc := 4) (e_s := (15, 3, 18, 0, 0, .null, [])) (y_s := (18, [some (.ref _), some (.int _), some (.int _), none], [], _)) rfl (u_ rfl) ?_
      refine w_t (pc := 18) (e_s := (0, 1, 0, 0, 0, .int (-1), [])) (y_s := (19, [some (.ref _), some (.int _), some (.int _), none], [.int _], _)) rfl (u_ rfl) ?_
      exact wrI (pc := 19) (len_s := 1) rfl hk t_s
    · replace t_s := t_s.2 c2_s
      refine w_t (pc := 4) (e_s := (1, 1, 0, 0, 0, .null, [])) (y_s := (5, [some (.int _)], [.int _], _)) rfl (u_ rfl) ?_
      refine w_t (pc := 5) (e_s := (0, 2, 0, 0, 0, .int 6, [])) (y_s := (7, [some (.int _)], [.int _, .int _], _)) rfl (u_ rfl) ?_
      refine wi3 (pc := 7) (len_s := 3) (Y := 6) rfl rfl (by decide) (fun c3_s => ?_) (fun c3_s => ?_)
      · replace t_s := t_s.1 c3_s
        refine w_t (pc := 10) (e_s := (0, 1, 0, 0, 0, .int 1, [])) (y_s := (11, [some (.int _)], [.int _], _)) rfl (u_ rfl) ?_
        refine w_t (pc := 11) (e_s := (17, 3, 15, 0, 0, .null, [])) (y_s := (15, [some (.int _)], [.int _], _)) rfl (u_ rfl) ?_
        refine wrI (pc := 15) (len_s := 1) rfl hk ?_
        show wF _ 136 (11, [some (.int _)], [.int _], _) _
        refine w_t (pc := 11) (e_s := (15, 3, 28, 0, 0, .null, [])) (y_s := (14, [some (.int _)], [], _)) rfl (u_ rfl) ?_
        refine w_t (pc := 14) (e_s := (1, 1, 0, 0, 0, .null, [])) (y_s := (15, [some (.int _)], [.int _], _)) rfl (u_ rfl) ?_
        refine w_t (pc := 15) (e_s := (0, 2, 0, 0, 0, .int 10, [])) (y_s := (17, [some (.int _)], [.int _, .int _], _)) rfl (u_ rfl) ?_
        refine w8m (pc := 17) (len_s := 1) rfl ?_
        refine wcI (pc := 18) (len_s := 3) rfl rfl (l := [some (.int _)]) rfl ?_
        refine w_t (pc := 0) (e_s := (1, 1, 0, 0, 0, .null, [])) (y_s := (1, [some (.int _)], [.int _], _)) rfl (u_ rfl) ?_
        refine wq2 (pc := 1) (len_s := 3) rfl rfl (fun c4_s => ?_) (fun c4_s => ?_)
        · replace t_s := t_s.1 c4_s
          refine w_t (pc := 14) (e_s := (0, 1, 0, 0, 0, .int 0, [])) (y_s := (15, [some (.int _)], [.int _], _)) rfl (u_ rfl) ?_
          refine wrI (pc := 15) (len_s := 1) rfl hk ?_
          show wF _ 136 (21, [some (.int _)], [.int _], _) _
          refine w_t (pc := 21) (e_s := (15, 3, 28, 0, 0, .null, [])) (y_s := (28, [some (.int _)], [], _)) rfl (u_ rfl) ?_
          refine w_t (pc := 28) (e_s := (0, 1, 0, 0, 0, .int 0, [])) (y_s := (29, [some (.int _)], [.int _], _)) rfl (u_ rfl) ?_
          refine wrI (pc := 29) (len_s := 1) rfl hk ?_
          show wF _ 110 (4, [some (.ref _), some (.int _), some (.int _), none], [.int _], _) _
          refine w_t (pc := 4) (e_s := (15, 3, 18, 0, 0, .null, [])) (y_s := (18, [some (.ref _), some (.int _), some (.int _), none], [], _)) rfl (u_ rfl) ?_
          refine w_t (pc := 18) (e_s := (0, 1, 0, 0, 0, .int (-1), [])) (y_s := (19, [some (.ref _), some (.int _), some (.int _), none], [.int _], _)) rfl (u_ rfl) ?_
          exact wrI (pc := 19) (len_s := 1) rfl hk t_s
        · replace t_s := t_s.2 c4_s
          refine w_t (pc := 4) (e_s := (1, 1, 0, 0, 0, .null, [])) (y_s := (5, [some (.int _)], [.int _], _)) rfl (u_ rfl) ?_
          refine w_t (pc := 5) (e_s := (0, 2, 0, 0, 0, .int 6, [])) (y_s := (7, [some (.int _)], [.int _, .int _], _)) rfl (u_ rfl) ?_
          refine wi3 (pc := 7) (len_s := 3) (Y := 6) rfl rfl (by decide) (fun c5_s => ?_) (fun c5_s => ?_)
          · replace t_s := t_s.1 c5_s
            refine w_t (pc := 10) (e_s := (0, 1, 0, 0, 0, .int 1, [])) (y_s := (11, [some (.int _)], [.int _], _)) rfl (u_ rfl) ?_
            refine w_t (pc := 11) (e_s := (17, 3, 15, 0, 0, .null, [])) (y_s := (15, [some (.int _)], [.int _], _)) rfl (u_ rfl) ?_
            refine wrI (pc := 15) (len_s := 1) rfl hk ?_
            show wF _ 136 (21, [some (.int _)], [.int _], _) _
            refine w_t (pc := 21) (e_s := (15, 3, 28, 0, 0, .null, [])) (y_s := (24, [some (.int _)], [], _)) rfl (u_ rfl) ?_
            refine w_t (pc := 24) (e_s := (0, 1, 0, 0, 0, .int 1, [])) (y_s := (25, [some (.int _)], [.int _], _)) rfl (u_ rfl) ?_
            refine w_t (pc := 25) (e_s := (17, 3, 29, 0, 0, .null, [])) (y_s := (29, [some (.int _)], [.int _], _)) rfl (u_ rfl) ?_
            refine wrI (pc := 29) (len_s := 1) rfl hk ?_
            show wF _ 110 (4, [some (.ref _), some (.int _), some (.int _), none], [.int _], _) _
            refine w_t (pc := 4) (e_s := (15, 3, 18, 0, 0, .null, [])) (y_s := (7, [some (.ref _), some (.int _), some (.int _), none], [], _)) rfl (u_ rfl) ?_
            refine w_t (pc := 7) (e_s := (3, 1, 0, 0, 0, .null, [])) (y_s := (8, [some (.ref _), some (.int _), some (.int _), none], [.ref _], _)) rfl (u_ rfl) ?_
            refine w20r (pc := 8) (len_s := 3) (q_s := 7) rfl (krq hk rfl) ?_
            refine w_t (pc := 11) (e_s := (1, 1, 2, 0, 0, .null, [])) (y_s := (12, [some (.ref _), some (.int _), some (.int _), none], [.int _, .ref _], _)) rfl (u_ rfl) ?_
            refine wcI (pc := 12) (len_s := 3) rfl rfl (l := [some (.ref _), some (.int _)]) rfl ?_
            refine w_t (pc := 0) (e_s := (1, 1, 1, 0, 0, .null, [])) (y_s := (1, [some (.ref _), some (.int _)], [.int _], _)) rfl (u_ rfl) ?_
            refine wq2 (pc := 1) (len_s := 3) rfl rfl (fun c6_s => ?_) (fun c6_s => ?_)
            · replace t_s := t_s.1 c6_s
              refine w_t (pc := 16) (e_s := (0, 1, 0, 0, 0, .int 0, [])) (y_s := (17, [some (.ref _), some (.int _)], [.int _], _)) rfl (u_ rfl) ?_
              refine wrI (pc := 17) (len_s := 1) rfl hk ?_
              show wF _ 110 (15, [some (.ref _), some (.int _), some (.int _), none], [.int _], _) _
              refine w_t (pc := 15) (e_s := (15, 3, 20, 1, 0, .null, [])) (y_s := (18, [some (.ref _), some (.int _), some (.int _), none], [], _)) rfl (u_ rfl) ?_
              refine w_t (pc := 18) (e_s := (0, 1, 0, 0, 0, .int (-1), [])) (y_s := (19, [some (.ref _), some (.int _), some (.int _), none], [.int _], _)) rfl (u_ rfl) ?_
              exact wrI (pc := 19) (len_s := 1) rfl hk t_s
            · replace t_s := t_s.2 c6_s
              refine w_t (pc := 4) (e_s := (1, 1, 1, 0, 0, .null, [])) (y_s := (5, [some (.ref _), some (.int _)], [.int _], _)) rfl (u_ rfl) ?_
              refine w_t (pc := 5) (e_s := (3, 1, 0, 0, 0, .null, [])) (y_s := (6, [some (.ref _), some (.int _)], [.ref _, .int _], _)) rfl (u_ rfl) ?_
              refine w20 (pc := 6) (len_s := 3) rfl ?_
              refine wi3 (pc := 9) (len_s := 3) rfl rfl rfl (fun c7_s => ?_) (fun c7_s => ?_)
              · replace t_s := t_s.1 c7_s
                refine w_t (pc := 12) (e_s := (0, 1, 0, 0, 0, .int 1, [])) (y_s := (13, [some (.ref _), some (.int _)], [.int _], _)) rfl (u_ rfl) ?_
                refine w_t (pc := 13) (e_s := (17, 3, 17, 0, 0, .null, [])) (y_s := (17, [some (.ref _), some (.int _)], [.int _], _)) rfl (u_ rfl) ?_
                refine wrI (pc := 17) (len_s := 1) rfl hk ?_
                show wF _ 110 (15, [some (.ref _), some (.int _), some (.int _), none], [.int _], _) _
                refine w_t (pc := 15) (e_s := (15, 3, 20, 1, 0, .null, [])) (y_s := (20, [some (.ref _), some (.int _), some (.int _), none], [], _)) rfl (u_ rfl) ?_
                refine w_t (pc := 20) (e_s := (3, 1, 0, 0, 0, .null, [])) (y_s := (21, [some (.ref _), some (.int _), some (.int _), none], [.ref _], _)) rfl (u_ rfl) ?_
                refine w_t (pc := 21) (e_s := (1, 1, 1, 0, 0, .null, [])) (y_s := (22, [some (.ref _), some (.int _), some (.int _), none], [.int _, .ref _], _)) rfl (u_ rfl) ?_
                refine wcI (pc := 22) (len_s := 3) rfl rfl (l := [some (.ref _), some (.int _), none]) rfl ?_
                refine w_t (pc := 0) (e_s := (3, 1, 0, 0, 0, .null, [])) (y_s := (1, [some (.ref _), some (.int _), none], [.ref _], _)) rfl (u_ rfl) ?_
                refine w20r (pc := 1) (len_s := 3) (q_s := 71) rfl (krq hk rfl) ?_
                refine w_t (pc := 4) (e_s := (1, 1, 1, 0, 0, .null, [])) (y_s := (5, [some (.ref _), some (.int _), none], [.int _, .ref _], _)) rfl (u_ rfl) ?_
                refine w_t (pc := 5) (e_s := (0, 2, 0, 0, 0, .int 10, [])) (y_s := (7, [some (.ref _), some (.int _), none], [.int _, .int _, .ref _], _)) rfl (u_ rfl) ?_
                refine w8 (pc := 7) (len_s := 1) rfl ?_
                refine w24 (g_s := fun j_ => 76 + 2 * j_) (pc := 8) (len_s := 1) hk rfl (hk.1 71 4 6 rfl rfl) kg71 (fun c8_s => ?_)
                replace t_s := t_s c8_s
                refine wcI (pc := 9) (len_s := 3) rfl rfl (l := [some (.ref _)]) rfl (wmI t_s (fun v9 h9 hk t_s => ?_))
                replace t_s := t_s hk
                refine w_t (pc := 12) (e_s := (4, 1, 2, 0, 0, .null, [])) (y_s := (13, [some (.ref _), some (.int _), some (.int _)], [], _)) rfl (u_ rfl) ?_
                refine w_t (pc := 13) (e_s := (1, 1, 2, 0, 0, .null, [])) (y_s := (14, [some (.ref _), some (.int _), some (.int _)], [.int _], _)) rfl (u_ rfl) ?_
                refine wq0 (pc := 14) (len_s := 3) rfl rfl (fun c10_s => ?_) (fun c10_s => ?_)
                · replace t_s := t_s.1 c10_s
                  refine w_t (pc := 21) (e_s := (3, 1, 0, 0, 0, .null, [])) (y_s := (22, [some (.ref _), some (.int _), some (.int _)], [.ref _], _)) rfl (u_ rfl) ?_
                  refine w20r (pc := 22) (len_s := 3) (q_s := 71) rfl (krq hk rfl) ?_
                  refine w_t (pc := 25) (e_s := (1, 1, 1, 0, 0, .null, [])) (y_s := (26, [some (.ref _), some (.int _), some (.int _)], [.int _, .ref _], _)) rfl (u_ rfl) ?_
                  refine w_t (pc := 26) (e_s := (0, 2, 0, 0, 0, .int 10, [])) (y_s := (28, [some (.ref _), some (.int _), some (.int _)], [.int _, .int _, .ref _], _)) rfl (u_ rfl) ?_
                  refine w8m (pc := 28) (len_s := 1) rfl ?_
                  refine w24 (g_s := fun j_ => 76 + 2 * j_) (pc := 29) (len_s := 1) hk rfl (hk.1 71 4 6 rfl rfl) kg71 (fun c11_s => ?_)
                  replace t_s := t_s c11_s
                  refine wcI (pc := 30) (len_s := 3) rfl rfl (l := [some (.ref _)]) rfl (wmI t_s (fun v12 h12 hk t_s => ?_))
                  replace t_s := t_s hk
                  refine wrI (pc := 33) (len_s := 1) rfl hk ?_
                  show wF _ 110 (25, [some (.ref _), some (.int _), some (.int _), none], [.int _], _) _
                  refine w_t (pc := 25) (e_s := (4, 1, 3, 0, 0, .null, [])) (y_s := (26, [some (.ref _), some (.int _), some (.int _), some (.int _)], [], _)) rfl (u_ rfl) ?_
                  refine w_t (pc := 26) (e_s := (1, 1, 3, 0, 0, .null, [])) (y_s := (27, [some (.ref _), some (.int _), some (.int _), some (.int _)], [.int _], _)) rfl (u_ rfl) ?_
                  refine wq0 (pc := 27) (len_s := 3) rfl rfl (fun c13_s => ?_) (fun c13_s => ?_)
                  · replace t_s := t_s.1 c13_s
                    refine w_t (pc := 32) (e_s := (3, 1, 0, 0, 0, .null, [])) (y_s := (33, [some (.ref _), some (.int _), some (.int _), some (.int _)], [.ref _], _)) rfl (u_ rfl) ?_
                    refine w20r (pc := 33) (len_s := 3) (q_s := 50) rfl (krq hk rfl) ?_
                    refine w_t (pc := 36) (e_s := (3, 1, 0, 0, 0, .null, [])) (y_s := (37, [some (.ref _), some (.int _), some (.int _), some (.int _)], [.ref _, .ref _], _)) rfl (u_ rfl) ?_
                    refine w20r (pc := 37) (len_s := 3) (q_s := 71) rfl (krq hk rfl) ?_
                    refine w_t (pc := 40) (e_s := (1, 1, 1, 0, 0, .null, [])) (y_s := (41, [some (.ref _), some (.int _), some (.int _), some (.int _)], [.int _, .ref _, .ref _], _)) rfl (u_ rfl) ?_
                    refine w_t (pc := 41) (e_s := (0, 2, 0, 0, 0, .int 10, [])) (y_s := (43, [some (.ref _), some (.int _), some (.int _), some (.int _)], [.int _, .int _, .ref _, .ref _], _)) rfl (u_ rfl) ?_
                    refine w8 (pc := 43) (len_s := 1) rfl ?_
                    refine w24 (g_s := fun j_ => 76 + 2 * j_) (pc := 44) (len_s := 1) hk rfl (hk.1 71 4 6 rfl rfl) kg71 (fun c14_s => ?_)
                    refine w_t (pc := 45) (e_s := (3, 1, 0, 0, 0, .null, [])) (y_s := (46, [some (.ref _), some (.int _), some (.int _), some (.int _)], [.ref _, .ref _, .ref _], _)) rfl (u_ rfl) ?_
                    refine w20r (pc := 46) (len_s := 3) (q_s := 7) rfl (krq hk rfl) ?_
                    refine w20 (pc := 49) (len_s := 3) rfl ?_
                    refine wcV (pc := 52) (len_s := 3) rfl rfl (l := [some (.ref _), some (.ref _), some (.int _), none, none, none]) rfl (wmV t_s (fun h15 hk t_s => ?_))
                    replace t_s := t_s hk
                    refine w_t (pc := 55) (e_s := (3, 1, 0, 0, 0, .null, [])) (y_s := (56, [some (.ref _), some (.int _), some (.int _), some (.int _)], [.ref _], _)) rfl (u_ rfl) ?_
                    refine w20r (pc := 56) (len_s := 3) (q_s := 50) rfl (krq hk rfl) ?_
                    refine w_t (pc := 59) (e_s := (3, 1, 0, 0, 0, .null, [])) (y_s := (60, [some (.ref _), some (.int _), some (.int _), some (.int _)], [.ref _, .ref _], _)) rfl (u_ rfl) ?_
                    refine w_t (pc := 60) (e_s := (1, 1, 2, 0, 0, .null, [])) (y_s := (61, [some (.ref _), some (.int _), some (.int _), some (.int _)], [.int _, .ref _, .ref _], _)) rfl (u_ rfl) ?_
                    refine wcR (pc := 61) (len_s := 3) rfl rfl (l := [some (.ref _), some (.int _)]) rfl (wmR t_s (fun v16 h16_s hk t_s => ?_))
                    replace t_s := t_s hk
                    refine w_t (pc := 64) (e_s := (3, 1, 0, 0, 0, .null, [])) (y_s := (65, [some (.ref _), some (.int _), some (.int _), some (.int _)], [.ref _, .ref _, .ref _], _)) rfl (u_ rfl) ?_
                    refine w20r (pc := 65) (len_s := 3) (q_s := 71) rfl (krq hk rfl) ?_
                    refine w_t (pc := 68) (e_s := (1, 1, 1, 0, 0, .null, [])) (y_s := (69, [some (.ref _), some (.int _), some (.int _), some (.int _)], [.int _, .ref _, .ref _, .ref _], _)) rfl (u_ rfl) ?_
                    refine w_t (pc := 69) (e_s := (0, 2, 0, 0, 0, .int 10, [])) (y_s := (71, [some (.ref _), some (.int _), some (.int _), some (.int _)], [.int _, .int _, .ref _, .ref _, .ref _], _)) rfl (u_ rfl) ?_
                    refine w8m (pc := 71) (len_s := 1) rfl ?_
                    refine w24 (g_s := fun j_ => 76 + 2 * j_) (pc := 72) (len_s := 1) hk rfl (hk.1 71 4 6 rfl rfl) kg71 (fun c17 => ?_)
                    refine w_t (pc := 73) (e_s := (3, 1, 0, 0, 0, .null, [])) (y_s := (74, [some (.ref _), some (.int _), some (.int _), some (.int _)], [.ref _, .ref _, .ref _, .ref _], _)) rfl (u_ rfl) ?_
                    refine w20r (pc := 74) (len_s := 3) (q_s := 7) rfl (krq hk rfl) ?_
                    refine wcI (pc := 77) (len_s := 3) rfl rfl (l := [some (.ref _), some (.ref _), some (.ref _), some (.ref _), none, none]) rfl (wmI t_s (fun v18 h18 hk t_s => ?_))
                    replace t_s := t_s hk
                    exact wrI (pc := 80) (len_s := 1) rfl hk t_s
                  · replace t_s := t_s.2 c13_s
                    refine w_t (pc := 30) (e_s := (1, 1, 3, 0, 0, .null, [])) (y_s := (31, [some (.ref _), some (.int _), some (.int _), some (.int _)], [.int _], _)) rfl (u_ rfl) ?_
                    exact wrI (pc := 31) (len_s := 1) rfl hk t_s
                · replace t_s := t_s.2 c10_s
                  refine w_t (pc := 17) (e_s := (1, 1, 2, 0, 0, .null, [])) (y_s := (18, [some (.ref _), some (.int _), some (.int _)], [.int _], _)) rfl (u_ rfl) ?_
                  refine w_t (pc := 18) (e_s := (17, 3, 33, 0, 0, .null, [])) (y_s := (33, [some (.ref _), some (.int _), some (.int _)], [.int _], _)) rfl (u_ rfl) ?_
                  refine wrI (pc := 33) (len_s := 1) rfl hk ?_
                  show wF _ 110 (25, [some (.ref _), some (.int _), some (.int _), none], [.int _], _) _
                  refine w_t (pc := 25) (e_s := (4, 1, 3, 0, 0, .null, [])) (y_s := (26, [some (.ref _), some (.int _), some (.int _), some (.int _)], [], _)) rfl (u_ rfl) ?_
                  refine w_t (pc := 26) (e_s := (1, 1, 3, 0, 0, .null, [])) (y_s := (27, [some (.ref _), some (.int _), some (.int _), some (.int _)], [.int _], _)) rfl (u_ rfl) ?_
                  refine wq0 (pc := 27) (len_s := 3) rfl rfl (fun c19_s => ?_) (fun c19_s => ?_)
                  · exact absurd c19_s c10_s
                  · skip
                    refine w_t (pc := 30) (e_s := (1, 1, 3, 0, 0, .null, [])) (y_s := (31, [some (.ref _), some (.int _), some (.int _), some (.int _)], [.int _], _)) rfl (u_ rfl) ?_
                    exact wrI (pc := 31) (len_s := 1) rfl hk t_s
              · replace t_s := t_s.2 c7_s
                refine w_t (pc := 16) (e_s := (0, 1, 0, 0, 0, .int 0, [])) (y_s := (17, [some (.ref _), some (.int _)], [.int _], _)) rfl (u_ rfl) ?_
                refine wrI (pc := 17) (len_s := 1) rfl hk ?_
                show wF _ 110 (15, [some (.ref _), some (.int _), some (.int _), none], [.int _], _) _
                refine w_t (pc := 15) (e_s := (15, 3, 20, 1, 0, .null, [])) (y_s := (18, [some (.ref _), some (.int _), some (.int _), none], [], _)) rfl (u_ rfl) ?_
                refine w_t (pc := 18) (e_s := (0, 1, 0, 0, 0, .int (-1), [])) (y_s := (19, [some (.ref _), some (.int _), some (.int _), none], [.int _], _)) rfl (u_ rfl) ?_
                exact wrI (pc := 19) (len_s := 1) rfl hk t_s
          · replace t_s := t_s.2 c5_s
            refine w_t (pc := 14) (e_s := (0, 1, 0, 0, 0, .int 0, [])) (y_s := (15, [some (.int _)], [.int _], _)) rfl (u_ rfl) ?_
            refine wrI (pc := 15) (len_s := 1) rfl hk ?_
            show wF _ 136 (21, [some (.int _)], [.int _], _) _
            refine w_t (pc := 21) (e_s := (15, 3, 28, 0, 0, .null, [])) (y_s := (28, [some (.int _)], [], _)) rfl (u_ rfl) ?_
            refine w_t (pc := 28) (e_s := (0, 1, 0, 0, 0, .int 0, [])) (y_s := (29, [some (.int _)], [.int _], _)) rfl (u_ rfl) ?_
            refine wrI (pc := 29) (len_s := 1) rfl hk ?_
            show wF _ 110 (4, [some (.ref _), some (.int _), some (.int _), none], [.int _], _) _
            refine w_t (pc := 4) (e_s := (15, 3, 18, 0, 0, .null, [])) (y_s := (18, [some (.ref _), some (.int _), some (.int _), none], [], _)) rfl (u_ rfl) ?_
            refine w_t (pc := 18) (e_s := (0, 1, 0, 0, 0, .int (-1), [])) (y_s := (19, [some (.ref _), some (.int _), some (.int _), none], [.int _], _)) rfl (u_ rfl) ?_
            exact wrI (pc := 19) (len_s := 1) rfl hk t_s
      · replace t_s := t_s.2 c3_s
        refine w_t (pc := 14) (e_s := (0, 1, 0, 0, 0, .int 0, [])) (y_s := (15, [some (.int _)], [.int _], _)) rfl (u_ rfl) ?_
        refine wrI (pc := 15) (len_s := 1) rfl hk ?_
        show wF _ 136 (11, [some (.int _)], [.int _], _) _
        refine w_t (pc := 11) (e_s := (15, 3, 28, 0, 0, .null, [])) (y_s := (28, [some (.int _)], [], _)) rfl (u_ rfl) ?_
        refine w_t (pc := 28) (e_s := (0, 1, 0, 0, 0, .int 0, [])) (y_s := (29, [some (.int _)], [.int _], _)) rfl (u_ rfl) ?_
        refine wrI (pc := 29) (len_s := 1) rfl hk ?_
        show wF _ 110 (4, [some (.ref _), some (.int _), some (.int _), none], [.int _], _) _
        refine w_t (pc := 4) (e_s := (15, 3, 18, 0, 0, .null, [])) (y_s := (18, [some (.ref _), some (.int _), some (.int _), none], [], _)) rfl (u_ rfl) ?_
        refine w_t (pc := 18) (e_s := (0, 1, 0, 0, 0, .int (-1), [])) (y_s := (19, [some (.ref _), some (.int _), some (.int _), none], [.int _], _)) rfl (u_ rfl) ?_
        exact wrI (pc := 19) (len_s := 1) rfl hk t_s
/-- ColdShod.edge(III)I, from 0 on -/
theorem sg_111_0 {F_s : Nat} {x1_s : Int32} {x2_s : Int32} {x3 : Int32} {h_s : zH} {K_s : Int32 → zH → Prop} (hk : hKn h_s) (t_s : (x1_s.toInt < 0 → K_s (-1) h_s) ∧ (¬ x1_s.toInt < 0 → (((x1_s / 10).toInt < 0 → K_s (-1) h_s) ∧ (¬ (x1_s / 10).toInt < 0 → (((x1_s / 10).toInt < 6 → (((x1_s - x1_s / 10 * 10).toInt < 0 → K_s (-1) h_s) ∧ (¬ (x1_s - x1_s / 10 * 10).toInt < 0 → (((x1_s - x1_s / 10 * 10).toInt < 6 → ((x2_s.toInt < 0 → K_s (-1) h_s) ∧ (¬ x2_s.toInt < 0 → ((x2_s.toInt < (h_s.2.1 7 7).toInt → ((x3.toInt < 0 → K_s (-1) h_s) ∧ (¬ x3.toInt < 0 → ((1 < x3.toInt → K_s (-1) h_s) ∧ (¬ 1 < x3.toInt → (zix (x1_s / 10) < 6 → wF F_s 140 (0, [some (.ref (76 + 2 * (zix (x1_s / 10))))], [], h_s) (gI (fun v11 h11 => hKn h11 → (v11.toInt = 0 → (zix (x1_s - x1_s / 10 * 10) < 6 → wF F_s 140 (0, [some (.ref (76 + 2 * (zix (x1_s - x1_s / 10 * 10))))], [], h11) (gI (fun v14 h14 => hKn h14 → (v14.toInt = 0 → wF F_s 48 (0, [some (.ref 50), some (.ref (76 + 2 * (zix (x1_s / 10)))), some (.int (h14.2.1 7 8)), none, none, none], [], h14) (gV (fun h17 => hKn h17 → (x3.toInt = 0 → wF F_s 111 (84, [some (.ref 6), some (.int x1_s), some (.int x2_s), some (.int x3), some (.int v14), some (.int 3), some (.int 0), some (.int 0), none], [], h17) (gI K_s)) ∧ (¬ x3.toInt = 0 → wF F_s 111 (84, [some (.ref 6), some (.int x1_s), some (.int x2_s), some (.int x3), some (.int v14), some (.int 5), some (.int 0), some (.int 0), none], [], h17) (gI K_s))))) ∧ (¬ v14.toInt = 0 → K_s v14 h14))))) ∧ (¬ v11.toInt = 0 → K_s v11 h11))))))))) ∧ (¬ x2_s.toInt < (h_s.2.1 7 7).toInt → K_s (-1) h_s))))) ∧ (¬ (x1_s - x1_s / 10 * 10).toInt < 6 → K_s (-1) h_s))))) ∧ (¬ (x1_s / 10).toInt < 6 → K_s (-1) h_s)))))) : wF (F_s + 1) 111 (0, [some (.ref 6), some (.int x1_s), some (.int x2_s), some (.int x3), none, none, none, none, none], [], h_s) (gI K_s) := by
  refine w_0 (pc := 0) (e_s := (1, 1, 1, 0, 0, .null, [])) (y_s := (1, [some (.ref _), some (.int _), some (.int _), some (.int _), none, none, none, none, none], [.int _], _)) rfl (u_ rfl) ?_
  refine wcI (pc := 1) (len_s := 3) rfl rfl (l := [some (.int _)]) rfl ?_
  refine w_t (pc := 0) (e_s := (1, 1, 0, 0, 0, .null, [])) (y_s := (1, [some (.int _)], [.int _], _)) rfl (u_ rfl) ?_
  refine wq2 (pc := 1) (len_s := 3) rfl rfl (fun c1_s => ?_) (fun c1_s => ?_)
  · replace t_s := t_s.1 c1_s
    refine w_t (pc := 28) (e_s := (0, 1, 0, 0, 0, .int 0, [])) (y_s := (29, [some (.int _)], [.int _], _)) rfl (u_ rfl) ?_
    refine wrI (pc := 29) (len_s := 1) rfl hk ?_
    show wF _ 111 (4, [some (.ref _), some (.int _), some (.int _), some (.int _), none, none, none, none, none], [.int _], _) _
    refine w_t (pc := 4) (e_s := (15, 3, 27, 0, 0, .null, [])) (y_s := (27, [some (.ref _), some (.int _), some (.int _), some (.int _), none, none, none, none, none], [], _)) rfl (u_ rfl) ?_
    refine w_t (pc := 27) (e_s := (0, 1, 0, 0, 0, .int (-1), [])) (y_s := (28, [some (.ref _), some (.int _), some (.int _), some (.int _), none, none, none, none, none], [.int _], _)) rfl (u_ rfl) ?_
    exact wrI (pc := 28) (len_s := 1) rfl hk t_s
  · replace t_s := t_s.2 c1_s
    refine w_t (pc := 4) (e_s := (1, 1, 0, 0, 0, .null, [])) (y_s := (5, [some (.int _)], [.int _], _)) rfl (u_ rfl) ?_
    refine w_t (pc := 5) (e_s := (0, 2, 0, 0, 0, .int 10, [])) (y_s := (7, [some (.int _)], [.int _, .int _], _)) rfl (u_ rfl) ?_
    refine w8 (pc := 7) (len_s := 1) rfl ?_
    refine wcI (pc := 8) (len_s := 3) rfl rfl (l := [some (.int _)]) rfl ?_
    refine w_t (pc := 0) (e_s := (1, 1, 0, 0, 0, .null, [])) (y_s := (1, [some (.int _)], [.int _], _)) rfl (u_ rfl) ?_
    refine wq2 (pc := 1) (len_s := 3) rfl rfl (fun c2_s => ?_) (fun c2_s => ?_)
    · replace t_s := t_s.1 c2_s
      refine w_t (pc := 14) (e_s := (0, 1, 0, 0, 0, .int 0, [])) (y_s := (15, [some (.int _)], [.int _], _)) rfl (u_ rfl) ?_
      refine wrI (pc := 15) (len_s := 1) rfl hk ?_
      show wF _ 136 (11, [some (.int _)], [.int _], _) _
      refine w_t (pc := 11) (e_s := (15, 3, 28, 0, 0, .null, [])) (y_s := (28, [some (.int _)], [], _)) rfl (u_ rfl) ?_
      refine w_t (pc := 28) (e_s := (0, 1, 0, 0, 0, .int 0, [])) (y_s := (29, [some (.int _)], [.int _], _)) rfl (u_ rfl) ?_
      refine wrI (pc := 29) (len_s := 1) rfl hk ?_
      show wF _ 111 (4, [some (.ref _), some (.int _), some (.int _), some (.int _), none, none, none, none, none], [.int _], _) _
      refine w_t (pc := 4) (e_s := (15, 3, 27, 0, 0, .null, [])) (y_s := (27, [some (.ref _), some (.int _), some (.int _), some (.int _), none, none, none, none, none], [], _)) rfl (u_ rfl) ?_
      refine w_t (pc := 27) (e_s := (0, 1, 0, 0, 0, .int (-1), [])) (y_s := (28, [some (.ref _), some (.int _), some (.int _), some (.int _), none, none, none, none, none], [.int _], _)) rfl (u_ rfl) ?_
      exact wrI (pc := 28) (len_s := 1) rfl hk t_s
    · replace t_s := t_s.2 c2_s
      refine w_t (pc := 4) (e_s := (1, 1, 0, 0, 0, .null, [])) (y_s := (5, [some (.int _)], [.int _], _)) rfl (u_ rfl) ?_
      refine w_t (pc := 5) (e_s := (0, 2, 0, 0, 0, .int 6, [])) (y_s := (7, [some (.int _)], [.int _, .int _], _)) rfl (u_ rfl) ?_
      refine wi3 (pc := 7) (len_s := 3) (Y := 6) rfl rfl (by decide) (fun c3_s => ?_) (fun c3_s => ?_)
      · replace t_s := t_s.1 c3_s
        refine w_t (pc := 10) (e_s := (0, 1, 0, 0, 0, .int 1, [])) (y_s := (11, [some (.int _)], [.int _], _)) rfl (u_ rfl) ?_
        refine w_t (pc := 11) (e_s := (17, 3, 15, 0, 0, .null, [])) (y_s := (15, [some (.int _)], [.int _], _)) rfl (u_ rfl) ?_
        refine wrI (pc := 15) (len_s := 1) rfl hk ?_
        show wF _ 136 (11, [some (.int _)], [.int _], _) _
        refine w_t (pc := 11) (e_s := (15, 3, 28, 0, 0, .null, [])) (y_s := (14, [some (.int _)], [], _)) rfl (u_ rfl) ?_
        refine w_t (pc := 14) (e_s := (1, 1, 0, 0, 0, .null, [])) (y_s := (15, [some (.int _)], [.int _], _)) rfl (u_ rfl) ?_
        refine w_t (pc := 15) (e_s := (0, 2, 0, 0, 0, .int 10, [])) (y_s := (17, [some (.int _)], [.int _, .int _], _)) rfl (u_ rfl) ?_
        refine w8m (pc := 17) (len_s := 1) rfl ?_
        refine wcI (pc := 18) (len_s := 3) rfl rfl (l := [some (.int _)]) rfl ?_
        refine w_t (pc := 0) (e_s := (1, 1, 0, 0, 0, .null, [])) (y_s := (1, [some (.int _)], [.int _], _)) rfl (u_ rfl) ?_
        refine wq2 (pc := 1) (len_s := 3) rfl rfl (fun c4_s => ?_) (fun c4_s => ?_)
        · replace t_s := t_s.1 c4_s
          refine w_t (pc := 14) (e_s := (0, 1, 0, 0, 0, .int 0, [])) (y_s := (15, [some (.int _)], [.int _], _)) rfl (u_ rfl) ?_
          refine wrI (pc := 15) (len_s := 1) rfl hk ?_
          show wF _ 136 (21, [some (.int _)], [.int _], _) _
          refine w_t (pc := 21) (e_s := (15, 3, 28, 0, 0, .null, [])) (y_s := (28, [some (.int _)], [], _)) rfl (u_ rfl) ?_
          refine w_t (pc := 28) (e_s := (0, 1, 0, 0, 0, .int 0, [])) (y_s := (29, [some (.int _)], [.int _], _)) rfl (u_ rfl) ?_
          refine wrI (pc := 29) (len_s := 1) rfl hk ?_
          show wF _ 111 (4, [some (.ref _), some (.int _), some (.int _), some (.int _), none, none, none, none, none], [.int _], _) _
          refine w_t (pc := 4) (e_s := (15, 3, 27, 0, 0, .null, [])) (y_s := (27, [some (.ref _), some (.int _), some (.int _), some (.int _), none, none, none, none, none], [], _)) rfl (u_ rfl) ?_
          refine w_t (pc := 27) (e_s := (0, 1, 0, 0, 0, .int (-1), [])) (y_s := (28, [some (.ref _), some (.int _), some (.int _), some (.int _), none, none, none, none, none], [.int _], _)) rfl (u_ rfl) ?_
          exact wrI (pc := 28) (len_s := 1) rfl hk t_s
        · replace t_s := t_s.2 c4_s
          refine w_t (pc := 4) (e_s := (1, 1, 0, 0, 0, .null, [])) (y_s := (5, [some (.int _)], [.int _], _)) rfl (u_ rfl) ?_
          refine w_t (pc := 5) (e_s := (0, 2, 0, 0, 0, .int 6, [])) (y_s := (7, [some (.int _)], [.int _, .int _], _)) rfl (u_ rfl) ?_
          refine wi3 (pc := 7) (len_s := 3) (Y := 6) rfl rfl (by decide) (fun c5_s => ?_) (fun c5_s => ?_)
          · replace t_s := t_s.1 c5_s
            refine w_t (pc := 10) (e_s := (0, 1, 0, 0, 0, .int 1, [])) (y_s := (11, [some (.int _)], [.int _], _)) rfl (u_ rfl) ?_
            refine w_t (pc := 11) (e_s := (17, 3, 15, 0, 0, .null, [])) (y_s := (15, [some (.int _)], [.int _], _)) rfl (u_ rfl) ?_
            refine wrI (pc := 15) (len_s := 1) rfl hk ?_
            show wF _ 136 (21, [some (.int _)], [.int _], _) _
            refine w_t (pc := 21) (e_s := (15, 3, 28, 0, 0, .null, [])) (y_s := (24, [some (.int _)], [], _)) rfl (u_ rfl) ?_
            refine w_t (pc := 24) (e_s := (0, 1, 0, 0, 0, .int 1, [])) (y_s := (25, [some (.int _)], [.int _], _)) rfl (u_ rfl) ?_
            refine w_t (pc := 25) (e_s := (17, 3, 29, 0, 0, .null, [])) (y_s := (29, [some (.int _)], [.int _], _)) rfl (u_ rfl) ?_
            refine wrI (pc := 29) (len_s := 1) rfl hk ?_
            show wF _ 111 (4, [some (.ref _), some (.int _), some (.int _), some (.int _), none, none, none, none, none], [.int _], _) _
            refine w_t (pc := 4) (e_s := (15, 3, 27, 0, 0, .null, [])) (y_s := (7, [some (.ref _), some (.int _), some (.int _), some (.int _), none, none, none, none, none], [], _)) rfl (u_ rfl) ?_
            refine w_t (pc := 7) (e_s := (3, 1, 0, 0, 0, .null, [])) (y_s := (8, [some (.ref _), some (.int _), some (.int _), some (.int _), none, none, none, none, none], [.ref _], _)) rfl (u_ rfl) ?_
            refine w20r (pc := 8) (len_s := 3) (q_s := 7) rfl (krq hk rfl) ?_
            refine w_t (pc := 11) (e_s := (1, 1, 2, 0, 0, .null, [])) (y_s := (12, [some (.ref _), some (.int _), some (.int _), some (.int _), none, none, none, none, none], [.int _, .ref _], _)) rfl (u_ rfl) ?_
            refine wcI (pc := 12) (len_s := 3) rfl rfl (l := [some (.ref _), some (.int _)]) rfl ?_
            refine w_t (pc := 0) (e_s := (1, 1, 1, 0, 0, .null, [])) (y_s := (1, [some (.ref _), some (.int _)], [.int _], _)) rfl (u_ rfl) ?_
            refine wq2 (pc := 1) (len_s := 3) rfl rfl (fun c6_s => ?_) (fun c6_s => ?_)
            · replace t_s := t_s.1 c6_s
              refine w_t (pc := 16) (e_s := (0, 1, 0, 0, 0, .int 0, [])) (y_s := (17, [some (.ref _), some (.int _)], [.int _], _)) rfl (u_ rfl) ?_
              refine wrI (pc := 17) (len_s := 1) rfl hk ?_
              show wF _ 111 (15, [some (.ref _), some (.int _), some (.int _), some (.int _), none, none, none, none, none], [.int _], _) _
              refine w_t (pc := 15) (e_s := (15, 3, 27, 0, 0, .null, [])) (y_s := (27, [some (.ref _), some (.int _), some (.int _), some (.int _), none, none, none, none, none], [], _)) rfl (u_ rfl) ?_
              refine w_t (pc := 27) (e_s := (0, 1, 0, 0, 0, .int (-1), [])) (y_s := (28, [some (.ref _), some (.int _), some (.int _), some (.int _), none, none, none, none, none], [.int _], _)) rfl (u_ rfl) ?_
              exact wrI (pc := 28) (len_s := 1) rfl hk t_s
            · replace t_s := t_s.2 c6_s
              refine w_t (pc := 4) (e_s := (1, 1, 1, 0, 0, .null, [])) (y_s := (5, [some (.ref _), some (.int _)], [.int _], _)) rfl (u_ rfl) ?_
              refine w_t (pc := 5) (e_s := (3, 1, 0, 0, 0, .null, [])) (y_s := (6, [some (.ref _), some (.int _)], [.ref _, .int _], _)) rfl (u_ rfl) ?_
              refine w20 (pc := 6) (len_s := 3) rfl ?_
              refine wi3 (pc := 9) (len_s := 3) rfl rfl rfl (fun c7_s => ?_) (fun c7_s => ?_)
              · replace t_s := t_s.1 c7_s
                refine w_t (pc := 12) (e_s := (0, 1, 0, 0, 0, .int 1, [])) (y_s := (13, [some (.ref _), some (.int _)], [.int _], _)) rfl (u_ rfl) ?_
                refine w_t (pc := 13) (e_s := (17, 3, 17, 0, 0, .null, [])) (y_s := (17, [some (.ref _), some (.int _)], [.int _], _)) rfl (u_ rfl) ?_
                refine wrI (pc := 17) (len_s := 1) rfl hk ?_
                show wF _ 111 (15, [some (.ref _), some (.int _), some (.int _), some (.int _), none, none, none, none, none], [.int _], _) _
                refine w_t (pc := 15) (e_s := (15, 3, 27, 0, 0, .null, [])) (y_s := (18, [some (.ref _), some (.int _), some (.int _), some (.int _), none, none, none, none, none], [], _)) rfl (u_ rfl) ?_
                refine w_t (pc := 18) (e_s := (1, 1, 3, 0, 0, .null, [])) (y_s := (19, [some (.ref _), some (.int _), some (.int _), some (.int _), none, none, none, none, none], [.int _], _)) rfl (u_ rfl) ?_
                refine wq2 (pc := 19) (len_s := 3) rfl rfl (fun c8_s => ?_) (fun c8_s => ?_)
                · replace t_s := t_s.1 c8_s
                  refine w_t (pc := 27) (e_s := (0, 1, 0, 0, 0, .int (-1), [])) (y_s := (28, [some (.ref _), some (.int _), some (.int _), some (.int _), none, none, none, none, none], [.int _], _)) rfl (u_ rfl) ?_
                  exact wrI (pc := 28) (len_s := 1) rfl hk t_s
                · replace t_s := t_s.2 c8_s
                  refine w_t (pc := 22) (e_s := (1, 1, 3, 0, 0, .null, [])) (y_s := (23, [some (.ref _), some (.int _), some (.int _), some (.int _), none, none, none, none, none], [.int _], _)) rfl (u_ rfl) ?_
                  refine w_t (pc := 23) (e_s := (0, 1, 0, 0, 0, .int 1, [])) (y_s := (24, [some (.ref _), some (.int _), some (.int _), some (.int _), none, none, none, none, none], [.int _, .int _], _)) rfl (u_ rfl) ?_
                  refine wi5 (pc := 24) (len_s := 3) (Y := 1) rfl rfl (by decide) (fun c9_s => ?_) (fun c9_s => ?_)
                  · replace t_s := t_s.1 c9_s
                    refine w_t (pc := 27) (e_s := (0, 1, 0, 0, 0, .int (-1), [])) (y_s := (28, [some (.ref _), some (.int _), some (.int _), some (.int _), none, none, none, none, none], [.int _], _)) rfl (u_ rfl) ?_
                    exact wrI (pc := 28) (len_s := 1) rfl hk t_s
                  · replace t_s := t_s.2 c9_s
                    refine w_t (pc := 29) (e_s := (3, 1, 0, 0, 0, .null, [])) (y_s := (30, [some (.ref _), some (.int _), some (.int _), some (.int _), none, none, none, none, none], [.ref _], _)) rfl (u_ rfl) ?_
                    refine w_t (pc := 30) (e_s := (1, 1, 1, 0, 0, .null, [])) (y_s := (31, [some (.ref _), some (.int _), some (.int _), some (.int _), none, none, none, none, none], [.int _, .ref _], _)) rfl (u_ rfl) ?_
                    refine wcI (pc := 31) (len_s := 3) rfl rfl (l := [some (.ref _), some (.int _), none]) rfl ?_
                    refine w_t (pc := 0) (e_s := (3, 1, 0, 0, 0, .null, [])) (y_s := (1, [some (.ref _), some (.int _), none], [.ref _], _)) rfl (u_ rfl) ?_
                    refine w20r (pc := 1) (len_s := 3) (q_s := 71) rfl (krq hk rfl) ?_
                    refine w_t (pc := 4) (e_s := (1, 1, 1, 0, 0, .null, [])) (y_s := (5, [some (.ref _), some (.int _), none], [.int _, .ref _], _)) rfl (u_ rfl) ?_
                    refine w_t (pc := 5) (e_s := (0, 2, 0, 0, 0, .int 10, [])) (y_s := (7, [some (.ref _), some (.int _), none], [.int _, .int _, .ref _], _)) rfl (u_ rfl) ?_
                    refine w8 (pc := 7) (len_s := 1) rfl ?_
                    refine w24 (g_s := fun j_ => 76 + 2 * j_) (pc := 8) (len_s := 1) hk rfl (hk.1 71 4 6 rfl rfl) kg71 (fun c10_s => ?_)
                    replace t_s := t_s c10_s
                    refine wcI (pc := 9) (len_s := 3) rfl rfl (l := [some (.ref _)]) rfl (wmI t_s (fun v11 h11 hk t_s => ?_))
                    replace t_s := t_s hk
                    refine w_t (pc := 12) (e_s := (4, 1, 2, 0, 0, .null, [])) (y_s := (13, [some (.ref _), some (.int _), some (.int _)], [], _)) rfl (u_ rfl) ?_
                    refine w_t (pc := 13) (e_s := (1, 1, 2, 0, 0, .null, [])) (y_s := (14, [some (.ref _), some (.int _), some (.int _)], [.int _], _)) rfl (u_ rfl) ?_
                    refine wq0 (pc := 14) (len_s := 3) rfl rfl (fun c12_s => ?_) (fun c12_s => ?_)
                    · replace t_s := t_s.1 c12_s
                      refine w_t (pc := 21) (e_s := (3, 1, 0, 0, 0, .null, [])) (y_s := (22, [some (.ref _), some (.int _), some (.int _)], [.ref _], _)) rfl (u_ rfl) ?_
                      refine w20r (pc := 22) (len_s := 3) (q_s := 71) rfl (krq hk rfl) ?_
                      refine w_t (pc := 25) (e_s := (1, 1, 1, 0, 0, .null, [])) (y_s := (26, [some (.ref _), some (.int _), some (.int _)], [.int _, .ref _], _)) rfl (u_ rfl) ?_
                      refine w_t (pc := 26) (e_s := (0, 2, 0, 0, 0, .int 10, [])) (y_s := (28, [some (.ref _), some (.int _), some (.int _)], [.int _, .int _, .ref _], _)) rfl (u_ rfl) ?_
                      refine w8m (pc := 28) (len_s := 1) rfl ?_
                      refine w24 (g_s := fun j_ => 76 + 2 * j_) (pc := 29) (len_s := 1) hk rfl (hk.1 71 4 6 rfl rfl) kg71 (fun c13_s => ?_)
                      replace t_s := t_s c13_s
                      refine wcI (pc := 30) (len_s := 3) rfl rfl (l := [some (.ref _)]) rfl (wmI t_s (fun v14 h14 hk t_s => ?_))
                      replace t_s := t_s hk
                      refine wrI (pc := 33) (len_s := 1) rfl hk ?_
                      show wF _ 111 (34, [some (.ref _), some (.int _), some (.int _), some (.int _), none, none, none, none, none], [.int _], _) _
                      refine w_t (pc := 34) (e_s := (4, 2, 4, 0, 0, .null, [])) (y_s := (36, [some (.ref _), some (.int _), some (.int _), some (.int _), some (.int _), none, none, none, none], [], _)) rfl (u_ rfl) ?_
                      refine w_t (pc := 36) (e_s := (1, 2, 4, 0, 0, .null, [])) (y_s := (38, [some (.ref _), some (.int _), some (.int _), some (.int _), some (.int _), none, none, none, none], [.int _], _)) rfl (u_ rfl) ?_
                      refine wq0 (pc := 38) (len_s := 3) rfl rfl (fun c15_s => ?_) (fun c15_s => ?_)
                      · replace t_s := t_s.1 c15_s
                        refine w_t (pc := 44) (e_s := (3, 1, 0, 0, 0, .null, [])) (y_s := (45, [some (.ref _), some (.int _), some (.int _), some (.int _), some (.int _), none, none, none, none], [.ref _], _)) rfl (u_ rfl) ?_
                        refine w20r (pc := 45) (len_s := 3) (q_s := 50) rfl (krq hk rfl) ?_
                        refine w_t (pc := 48) (e_s := (3, 1, 0, 0, 0, .null, [])) (y_s := (49, [some (.ref _), some (.int _), some (.int _), some (.int _), some (.int _), none, none, none, none], [.ref _, .ref _], _)) rfl (u_ rfl) ?_
                        refine w20r (pc := 49) (len_s := 3) (q_s := 71) rfl (krq hk rfl) ?_
                        refine w_t (pc := 52) (e_s := (1, 1, 1, 0, 0, .null, [])) (y_s := (53, [some (.ref _), some (.int _), some (.int _), some (.int _), some (.int _), none, none, none, none], [.int _, .ref _, .ref _], _)) rfl (u_ rfl) ?_
                        refine w_t (pc := 53) (e_s := (0, 2, 0, 0, 0, .int 10, [])) (y_s := (55, [some (.ref _), some (.int _), some (.int _), some (.int _), some (.int _), none, none, none, none], [.int _, .int _, .ref _, .ref _], _)) rfl (u_ rfl) ?_
                        refine w8 (pc := 55) (len_s := 1) rfl ?_
                        refine w24 (g_s := fun j_ => 76 + 2 * j_) (pc := 56) (len_s := 1) hk rfl (hk.1 71 4 6 rfl rfl) kg71 (fun c16 => ?_)
                        refine w_t (pc := 57) (e_s := (3, 1, 0, 0, 0, .null, [])) (y_s := (58, [some (.ref _), some (.int _), some (.int _), some (.int _), some (.int _), none, none, none, none], [.ref _, .ref _, .ref _], _)) rfl (u_ rfl) ?_
                        refine w20r (pc := 58) (len_s := 3) (q_s := 7) rfl (krq hk rfl) ?_
                        refine w20 (pc := 61) (len_s := 3) rfl ?_
                        refine wcV (pc := 64) (len_s := 3) rfl rfl (l := [some (.ref _), some (.ref _), some (.int _), none, none, none]) rfl (wmV t_s (fun h17 hk t_s => ?_))
                        replace t_s := t_s hk
                        refine w_t (pc := 67) (e_s := (1, 1, 3, 0, 0, .null, [])) (y_s := (68, [some (.ref _), some (.int _), some (.int _), some (.int _), some (.int _), none, none, none, none], [.int _], _)) rfl (u_ rfl) ?_
                        refine wq1 (pc := 68) (len_s := 3) rfl rfl (fun c18_s => ?_) (fun c18_s => ?_)
                        · replace t_s := t_s.1 c18_s
                          refine w_t (pc := 71) (e_s := (0, 1, 0, 0, 0, .int 3, [])) (y_s := (72, [some (.ref _), some (.int _), some (.int _), some (.int _), some (.int _), none, none, none, none], [.int _], _)) rfl (u_ rfl) ?_
                          refine w_t (pc := 72) (e_s := (17, 3, 76, 0, 0, .null, [])) (y_s := (76, [some (.ref _), some (.int _), some (.int _), some (.int _), some (.int _), none, none, none, none], [.int _], _)) rfl (u_ rfl) ?_
                          refine w_t (pc := 76) (e_s := (4, 2, 5, 0, 0, .null, [])) (y_s := (78, [some (.ref _), some (.int _), some (.int _), some (.int _), some (.int _), some (.int _), none, none, none], [], _)) rfl (u_ rfl) ?_
                          refine w_t (pc := 78) (e_s := (0, 1, 0, 0, 0, .int 0, [])) (y_s := (79, [some (.ref _), some (.int _), some (.int _), some (.int _), some (.int _), some (.int _), none, none, none], [.int _], _)) rfl (u_ rfl) ?_
                          refine w_t (pc := 79) (e_s := (4, 2, 6, 0, 0, .null, [])) (y_s := (81, [some (.ref _), some (.int _), some (.int _), some (.int _), some (.int _), some (.int _), some (.int _), none, none], [], _)) rfl (u_ rfl) ?_
                          refine w_t (pc := 81) (e_s := (0, 1, 0, 0, 0, .int 0, [])) (y_s := (82, [some (.ref _), some (.int _), some (.int _), some (.int _), some (.int _), some (.int _), some (.int _), none, none], [.int _], _)) rfl (u_ rfl) ?_
                          refine w_t (pc := 82) (e_s := (4, 2, 7, 0, 0, .null, [])) (y_s := (84, [some (.ref _), some (.int _), some (.int _), some (.int _), some (.int _), some (.int _), some (.int _), some (.int _), none], [], _)) rfl (u_ rfl) ?_
                          exact t_s
                        · replace t_s := t_s.2 c18_s
                          refine w_t (pc := 75) (e_s := (0, 1, 0, 0, 0, .int 5, [])) (y_s := (76, [some (.ref _), some (.int _), some (.int _), some (.int _), some (.int _), none, none, none, none], [.int _], _)) rfl (u_ rfl) ?_
                          refine w_t (pc := 76) (e_s := (4, 2, 5, 0, 0, .null, [])) (y_s := (78, [some (.ref _), some (.int _), some (.int _), some (.int _), some (.int _), some (.int _), none, none, none], [], _)) rfl (u_ rfl) ?_
                          refine w_t (pc := 78) (e_s := (0, 1, 0, 0, 0, .int 0, [])) (y_s := (79, [some (.ref _), some (.int _), some (.int _), some (.int _), some (.int _), some (.int _), none, none, none], [.int _], _)) rfl (u_ rfl) ?_
                          refine w_t (pc := 79) (e_s := (4, 2, 6, 0, 0, .null, [])) (y_s := (81, [some (.ref _), some (.int _), some (.int _), some (.int _), some (.int _), some (.int _), some (.int _), none, none], [], _)) rfl (u_ rfl) ?_
                          refine w_t (pc := 81) (e_s := (0, 1, 0, 0, 0, .int 0, [])) (y_s := (82, [some (.ref _), some (.int _), some (.int _), some (.int _), some (.int _), some (.int _), some (.int _), none, none], [.int _], _)) rfl (u_ rfl) ?_
                          refine w_t (pc := 82) (e_s := (4, 2, 7, 0, 0, .null, [])) (y_s := (84, [some (.ref _), some (.int _), some (.int _), some (.int _), some (.int _), some (.int _), some (.int _), some (.int _), none], [], _)) rfl (u_ rfl) ?_
                          exact t_s
                      · replace t_s := t_s.2 c15_s
                        refine w_t (pc := 41) (e_s := (1, 2, 4, 0, 0, .null, [])) (y_s := (43, [some (.ref _), some (.int _), some (.int _), some (.int _), some (.int _), none, none, none, none], [.int _], _)) rfl (u_ rfl) ?_
                        exact wrI (pc := 43) (len_s := 1) rfl hk t_s
                    · replace t_s := t_s.2 c12_s
                      refine w_t (pc := 17) (e_s := (1, 1, 2, 0, 0, .null, [])) (y_s := (18, [some (.ref _), some (.int _), some (.int _)], [.int _], _)) rfl (u_ rfl) ?_
                      refine w_t (pc := 18) (e_s := (17, 3, 33, 0, 0, .null, [])) (y_s := (33, [some (.ref _), some (.int _), some (.int _)], [.int _], _)) rfl (u_ rfl) ?_
                      refine wrI (pc := 33) (len_s := 1) rfl hk ?_
                      show wF _ 111 (34, [some (.ref _), some (.int _), some (.int _), some (.int _), none, none, none, none, none], [.int _], _) _
                      refine w_t (pc := 34) (e_s := (4, 2, 4, 0, 0, .null, [])) (y_s := (36, [some (.ref _), some (.int _), some (.int _), some (.int _), some (.int _), none, none, none, none], [], _)) rfl (u_ rfl) ?_
                      refine w_t (pc := 36) (e_s := (1, 2, 4, 0, 0, .null, [])) (y_s := (38, [some (.ref _), some (.int _), some (.int _), some (.int _), some (.int _), none, none, none, none], [.int _], _)) rfl (u_ rfl) ?_
                      refine wq0 (pc := 38) (len_s := 3) rfl rfl (fun c19_s => ?_) (fun c19_s => ?_)
                      · exact absurd c19_s c12_s
                      · skip
                        refine w_t (pc := 41) (e_s := (1, 2, 4, 0, 0, .null, [])) (y_s := (43, [some (.ref _), some (.int _), some (.int _), some (.int _), some (.int _), none, none, none, none], [.int _], _)) rfl (u_ rfl) ?_
                        exact wrI (pc := 43) (len_s := 1) rfl hk t_s
              · replace t_s := t_s.2 c7_s
                refine w_t (pc := 16) (e_s := (0, 1, 0, 0, 0, .int 0, [])) (y_s := (17, [some (.ref _), some (.int _)], [.int _], _)) rfl (u_ rfl) ?_
                refine wrI (pc := 17) (len_s := 1) rfl hk ?_
                show wF _ 111 (15, [some (.ref _), some (.int _), some (.int _), some (.int _), none, none, none, none, none], [.int _], _) _
                refine w_t (pc := 15) (e_s := (15, 3, 27, 0, 0, .null, [])) (y_s := (27, [some (.ref _), some (.int _), some (.int _), some (.int _), none, none, none, none, none], [], _)) rfl (u_ rfl) ?_
                refine w_t (pc := 27) (e_s := (0, 1, 0, 0, 0, .int (-1), [])) (y_s := (28, [some (.ref _), some (.int _), some (.int _), some (.int _), none, none, none, none, none], [.int _], _)) rfl (u_ rfl) ?_
                exact wrI (pc := 28) (len_s := 1) rfl hk t_s
          · replace t_s := t_s.2 c5_s
            refine w_t (pc := 14) (e_s := (0, 1, 0, 0, 0, .int 0, [])) (y_s := (15, [some (.int _)], [.int _], _)) rfl (u_ rfl) ?_
            refine wrI (pc := 15) (len_s := 1) rfl hk ?_
            show wF _ 136 (21, [some (.int _)], [.int _], _) _
            refine w_t (pc := 21) (e_s := (15, 3, 28, 0, 0, .null, [])) (y_s := (28, [some (.int _)], [], _)) rfl (u_ rfl) ?_
            refine w_t (pc := 28) (e_s := (0, 1, 0, 0, 0, .int 0, [])) (y_s := (29, [some (.int _)], [.int _], _)) rfl (u_ rfl) ?_
            refine wrI (pc := 29) (len_s := 1) rfl hk ?_
            show wF _ 111 (4, [some (.ref _), some (.int _), some (.int _), some (.int _), none, none, none, none, none], [.int _], _) _
            refine w_t (pc := 4) (e_s := (15, 3, 27, 0, 0, .null, [])) (y_s := (27, [some (.ref _), some (.int _), some (.int _), some (.int _), none, none, none, none, none], [], _)) rfl (u_ rfl) ?_
            refine w_t (pc := 27) (e_s := (0, 1, 0, 0, 0, .int (-1), [])) (y_s := (28, [some (.ref _), some (.int _), some (.int _), some (.int _), none, none, none, none, none], [.int _], _)) rfl (u_ rfl) ?_
            exact wrI (pc := 28) (len_s := 1) rfl hk t_s
      · replace t_s := t_s.2 c3_s
        refine w_t (pc := 14) (e_s := (0, 1, 0, 0, 0, .int 0, [])) (y_s := (15, [some (.int _)], [.int _], _)) rfl (u_ rfl) ?_
        refine wrI (pc := 15) (len_s := 1) rfl hk ?_
        show wF _ 136 (11, [some (.int _)], [.int _], _) _
        refine w_t (pc := 11) (e_s := (15, 3, 28, 0, 0, .null, [])) (y_s := (28, [some (.int _)], [], _)) rfl (u_ rfl) ?_
        refine w_t (pc := 28) (e_s := (0, 1, 0, 0, 0, .int 0, [])) (y_s := (29, [some (.int _)], [.int _], _)) rfl (u_ rfl) ?_
        refine wrI (pc := 29) (len_s := 1) rfl hk ?_
        show wF _ 111 (4, [some (.ref _), some (.int _), some (.int _), some (.int _), none, none, none, none, none], [.int _], _) _
        refine w_t (pc := 4) (e_s := (15, 3, 27, 0, 0, .null, [])) (y_s := (27, [some (.ref _), some (.int _), some (.int _), some (.int _), none, none, none, none, none], [], _)) rfl (u_ rfl) ?_
        refine w_t (pc := 27) (e_s := (0, 1, 0, 0, 0, .int (-1), [])) (y_s := (28, [some (.ref _), some (.int _), some (.int _), some (.int _), none, none, none, none, none], [.int _], _)) rfl (u_ rfl) ?_
        exact wrI (pc := 28) (len_s := 1) rfl hk t_s
/-- ColdShod.edge(III)I, from 84 on -/
theorem sg_111_84 {F_s : Nat} {x1_s x2_s x3 x4_s x5_s x6 x7 : Int32} {l8 : Option Value} {h_s : zH} {K_s : Int32 → zH → Prop} (hk : hKn h_s) (t_s : (x5_s.toInt < x7.toInt → K_s x6 h_s) ∧ (¬ x5_s.toInt < x7.toInt → wF F_s 139 (0, [some (.ref 6), some (.int x2_s)], [], h_s) (gR (fun v2 h2 => hKn h2 → (x3.toInt = 0 → (zix (x1_s - x1_s / 10 * 10) < 6 → wF F_s 51 (0, [some (.ref 50), some (.ref v2), some (.ref (76 + 2 * (zix (x1_s - x1_s / 10 * 10)))), some (.ref 7), none, none], [], (h2.1, zup h2.2.1 v2 0 x7, h2.2.2.1, h2.2.2.2)) (gI (fun v5 h5 => hKn h5 → (v5.toInt = -2 → wF F_s 111 (84, [some (.ref 6), some (.int x1_s), some (.int x2_s), some (.int x3), some (.int x4_s), some (.int x5_s), some (.int (x6 ||| (1 <<< (x7 &&& 31)))), some (.int (x7 + 1)), some (.ref v2)], [], h5) (gI K_s)) ∧ (¬ v5.toInt = -2 → wF F_s 111 (84, [some (.ref 6), some (.int x1_s), some (.int x2_s), some (.int x3), some (.int x4_s), some (.int x5_s), some (.int x6), some (.int (x7 + 1)), some (.ref v2)], [], h5) (gI K_s)))))) ∧ (¬ x3.toInt = 0 → (zix (x1_s - x1_s / 10 * 10) < 6 → wF F_s 51 (0, [some (.ref 50), some (.ref v2), some (.ref (76 + 2 * (zix (x1_s - x1_s / 10 * 10)))), some (.ref 7), none, none], [], (h2.1, zup h2.2.1 v2 1 x7, h2.2.2.1, h2.2.2.2)) (gI (fun v8 h8 => hKn h8 → (v8.toInt = -2 → wF F_s 111 (84, [some (.ref 6), some (.int x1_s), some (.int x2_s), some (.int x3), some (.int x4_s), some (.int x5_s), some (.int (x6 ||| (1 <<< (x7 &&& 31)))), some (.int (x7 + 1)), some (.ref v2)], [], h8) (gI K_s)) ∧ (¬ v8.toInt = -2 → wF F_s 111 (84, [some (.ref 6), some (.int x1_s), some (.int x2_s), some (.int x3), some (.int x4_s), some (.int x5_s), some (.int x6), some (.int (x7 + 1)), some (.ref v2)], [], h8) (gI K_s)))))))))) : wF (F_s + 1) 111 (84, [some (.ref 6), some (.int x1_s), some (.int x2_s), some (.int x3), some (.int x4_s), some (.int x5_s), some (.int x6), some (.int x7), l8], [], h_s) (gI K_s) := by
  refine w_0 (pc := 84) (e_s := (1, 2, 7, 0, 0, .null, [])) (y_s := (86, [some (.ref _), some (.int _), some (.int _), some (.int _), some (.int _), some (.int _), some (.int _), some (.int _), _], [.int _], _)) rfl (u_ rfl) ?_
  refine w_t (pc := 86) (e_s := (1, 2, 5, 0, 0, .null, [])) (y_s := (88, [some (.ref _), some (.int _), some (.int _), some (.int _), some (.int _), some (.int _), some (.int _), some (.int _), _], [.int _, .int _], _)) rfl (u_ rfl) ?_
  refine wi4 (pc := 88) (len_s := 3) rfl rfl rfl (fun c1_s => ?_) (fun c1_s => ?_)
  · replace t_s := t_s.1 c1_s
    refine w_t (pc := 161) (e_s := (1, 2, 6, 0, 0, .null, [])) (y_s := (163, [some (.ref _), some (.int _), some (.int _), some (.int _), some (.int _), some (.int _), some (.int _), some (.int _), _], [.int _], _)) rfl (u_ rfl) ?_
    exact wrI (pc := 163) (len_s := 1) rfl hk t_s
  · replace t_s := t_s.2 c1_s
    refine w_t (pc := 91) (e_s := (3, 1, 0, 0, 0, .null, [])) (y_s := (92, [some (.ref _), some (.int _), some (.int _), some (.int _), some (.int _), some (.int _), some (.int _), some (.int _), _], [.ref _], _)) rfl (u_ rfl) ?_
    refine w_t (pc := 92) (e_s := (1, 1, 2, 0, 0, .null, [])) (y_s := (93, [some (.ref _), some (.int _), some (.int _), some (.int _), some (.int _), some (.int _), some (.int _), some (.int _), _], [.int _, .ref _], _)) rfl (u_ rfl) ?_
    refine wcR (pc := 93) (len_s := 3) rfl rfl (l := [some (.ref _), some (.int _)]) rfl (wmR t_s (fun v2 h2 hk t_s => ?_))
    replace t_s := t_s hk
    refine w_t (pc := 96) (e_s := (6, 2, 8, 0, 0, .null, [])) (y_s := (98, [some (.ref _), some (.int _), some (.int _), some (.int _), some (.int _), some (.int _), some (.int _), some (.int _), some (.ref _)], [], _)) rfl (u_ rfl) ?_
    refine w_t (pc := 98) (e_s := (1, 1, 3, 0, 0, .null, [])) (y_s := (99, [some (.ref _), some (.int _), some (.int _), some (.int _), some (.int _), some (.int _), some (.int _), some (.int _), some (.ref _)], [.int _], _)) rfl (u_ rfl) ?_
    refine wq1 (pc := 99) (len_s := 3) rfl rfl (fun c3_s => ?_) (fun c3_s => ?_)
    · replace t_s := t_s.1 c3_s
      refine w_t (pc := 102) (e_s := (3, 2, 8, 0, 0, .null, [])) (y_s := (104, [some (.ref _), some (.int _), some (.int _), some (.int _), some (.int _), some (.int _), some (.int _), some (.int _), some (.ref _)], [.ref _], _)) rfl (u_ rfl) ?_
      refine w_t (pc := 104) (e_s := (1, 2, 7, 0, 0, .null, [])) (y_s := (106, [some (.ref _), some (.int _), some (.int _), some (.int _), some (.int _), some (.int _), some (.int _), some (.int _), some (.ref _)], [.int _, .ref _], _)) rfl (u_ rfl) ?_
      refine w21 (pc := 106) (len_s := 3) rfl ?_
      refine w_t (pc := 109) (e_s := (17, 3, 119, 0, 0, .null, [])) (y_s := (119, [some (.ref _), some (.int _), some (.int _), some (.int _), some (.int _), some (.int _), some (.int _), some (.int _), some (.ref _)], [], _)) rfl (u_ rfl) ?_
      refine w_t (pc := 119) (e_s := (3, 1, 0, 0, 0, .null, [])) (y_s := (120, [some (.ref _), some (.int _), some (.int _), some (.int _), some (.int _), some (.int _), some (.int _), some (.int _), some (.ref _)], [.ref _], _)) rfl (u_ rfl) ?_
      refine w20r (pc := 120) (len_s := 3) (q_s := 50) rfl (krq hk rfl) ?_
      refine w_t (pc := 123) (e_s := (3, 2, 8, 0, 0, .null, [])) (y_s := (125, [some (.ref _), some (.int _), some (.int _), some (.int _), some (.int _), some (.int _), some (.int _), some (.int _), some (.ref _)], [.ref _, .ref _], _)) rfl (u_ rfl) ?_
      refine w_t (pc := 125) (e_s := (3, 1, 0, 0, 0, .null, [])) (y_s := (126, [some (.ref _), some (.int _), some (.int _), some (.int _), some (.int _), some (.int _), some (.int _), some (.int _), some (.ref _)], [.ref _, .ref _, .ref _], _)) rfl (u_ rfl) ?_
      refine w20r (pc := 126) (len_s := 3) (q_s := 71) rfl (krq hk rfl) ?_
      refine w_t (pc := 129) (e_s := (1, 1, 1, 0, 0, .null, [])) (y_s := (130, [some (.ref _), some (.int _), some (.int _), some (.int _), some (.int _), some (.int _), some (.int _), some (.int _), some (.ref _)], [.int _, .ref _, .ref _, .ref _], _)) rfl (u_ rfl) ?_
      refine w_t (pc := 130) (e_s := (0, 2, 0, 0, 0, .int 10, [])) (y_s := (132, [some (.ref _), some (.int _), some (.int _), some (.int _), some (.int _), some (.int _), some (.int _), some (.int _), some (.ref _)], [.int _, .int _, .ref _, .ref _, .ref _], _)) rfl (u_ rfl) ?_
      refine w8m (pc := 132) (len_s := 1) rfl ?_
      refine w24 (g_s := fun j_ => 76 + 2 * j_) (pc := 133) (len_s := 1) hk rfl (hk.1 71 4 6 rfl rfl) kg71 (fun c4_s => ?_)
      replace t_s := t_s c4_s
      refine w_t (pc := 134) (e_s := (3, 1, 0, 0, 0, .null, [])) (y_s := (135, [some (.ref _), some (.int _), some (.int _), some (.int _), some (.int _), some (.int _), some (.int _), some (.int _), some (.ref _)], [.ref _, .ref _, .ref _, .ref _], _)) rfl (u_ rfl) ?_
      refine w20r (pc := 135) (len_s := 3) (q_s := 7) rfl (krq hk rfl) ?_
      refine wcI (pc := 138) (len_s := 3) rfl rfl (l := [some (.ref _), some (.ref _), some (.ref _), some (.ref _), none, none]) rfl (wmI t_s (fun v5 h5 hk t_s => ?_))
      replace t_s := t_s hk
      refine w_t (pc := 141) (e_s := (0, 2, 0, 0, 0, .int (-2), [])) (y_s := (143, [some (.ref _), some (.int _), some (.int _), some (.int _), some (.int _), some (.int _), some (.int _), some (.int _), some (.ref _)], [.int _, .int _], _)) rfl (u_ rfl) ?_
      refine wi1 (pc := 143) (len_s := 3) (Y := -2) rfl rfl (by decide) (fun c6_s => ?_) (fun c6_s => ?_)
      · replace t_s := t_s.1 c6_s
        refine w_t (pc := 146) (e_s := (1, 2, 6, 0, 0, .null, [])) (y_s := (148, [some (.ref _), some (.int _), some (.int _), some (.int _), some (.int _), some (.int _), some (.int _), some (.int _), some (.ref _)], [.int _], _)) rfl (u_ rfl) ?_
        refine w_t (pc := 148) (e_s := (0, 1, 0, 0, 0, .int 1, [])) (y_s := (149, [some (.ref _), some (.int _), some (.int _), some (.int _), some (.int _), some (.int _), some (.int _), some (.int _), some (.ref _)], [.int _, .int _], _)) rfl (u_ rfl) ?_
        refine w_t (pc := 149) (e_s := (1, 2, 7, 0, 0, .null, [])) (y_s := (151, [some (.ref _), some (.int _), some (.int _), some (.int _), some (.int _), some (.int _), some (.int _), some (.int _), some (.ref _)], [.int _, .int _, .int _], _)) rfl (u_ rfl) ?_
        refine w_t (pc := 151) (e_s := (7, 1, 0, 6, 0, .null, [])) (y_s := (152, [some (.ref _), some (.int _), some (.int _), some (.int _), some (.int _), some (.int _), some (.int _), some (.int _), some (.ref _)], [.int ((_ : Int32) <<< ((_ : Int32) &&& 31)), .int _], _)) rfl (u_ rfl) ?_
        refine w_t (pc := 152) (e_s := (7, 1, 0, 4, 0, .null, [])) (y_s := (153, [some (.ref _), some (.int _), some (.int _), some (.int _), some (.int _), some (.int _), some (.int _), some (.int _), some (.ref _)], [.int (_ ||| _)], _)) rfl (u_ rfl) ?_
        refine w_t (pc := 153) (e_s := (4, 2, 6, 0, 0, .null, [])) (y_s := (155, [some (.ref _), some (.int _), some (.int _), some (.int _), some (.int _), some (.int _), some (.int _), some (.int _), some (.ref _)], [], _)) rfl (u_ rfl) ?_
        refine w_t (pc := 155) (e_s := (19, 3, 7, 0, 0, .int 1, [])) (y_s := (158, [some (.ref _), some (.int _), some (.int _), some (.int _), some (.int _), some (.int _), some (.int _), some (.int _), some (.ref _)], [], _)) rfl (u_ rfl) ?_
        refine w_t (pc := 158) (e_s := (17, 3, 84, 0, 0, .null, [])) (y_s := (84, [some (.ref _), some (.int _), some (.int _), some (.int _), some (.int _), some (.int _), some (.int _), some (.int _), some (.ref _)], [], _)) rfl (u_ rfl) ?_
        exact t_s
      · replace t_s := t_s.2 c6_s
        refine w_t (pc := 155) (e_s := (19, 3, 7, 0, 0, .int 1, [])) (y_s := (158, [some (.ref _), some (.int _), some (.int _), some (.int _), some (.int _), some (.int _), some (.int _), some (.int _), some (.ref _)], [], _)) rfl (u_ rfl) ?_
        refine w_t (pc := 158) (e_s := (17, 3, 84, 0, 0, .null, [])) (y_s := (84, [some (.ref _), some (.int _), some (.int _), some (.int _), some (.int _), some (.int _), some (.int _), some (.int _), some (.ref _)], [], _)) rfl (u_ rfl) ?_
        exact t_s
    · replace t_s := t_s.2 c3_s
      refine w_t (pc := 112) (e_s := (3, 2, 8, 0, 0, .null, [])) (y_s := (114, [some (.ref _), some (.int _), some (.int _), some (.int _), some (.int _), some (.int _), some (.int _), some (.int _), some (.ref _)], [.ref _], _)) rfl (u_ rfl) ?_
      refine w_t (pc := 114) (e_s := (1, 2, 7, 0, 0, .null, [])) (y_s := (116, [some (.ref _), some (.int _), some (.int _), some (.int _), some (.int _), some (.int _), some (.int _), some (.int _), some (.ref _)], [.int _, .ref _], _)) rfl (u_ rfl) ?_
      refine w21 (pc := 116) (len_s := 3) rfl ?_
      refine w_t (pc := 119) (e_s := (3, 1, 0, 0, 0, .null, [])) (y_s := (120, [some (.ref _), some (.int _), some (.int _), some (.int _), some (.int _), some (.int _), some (.int _), some (.int _), some (.ref _)], [.ref _], _)) rfl (u_ rfl) ?_
      refine w20r (pc := 120) (len_s := 3) (q_s := 50) rfl (krq hk rfl) ?_
      refine w_t (pc := 123) (e_s := (3, 2, 8, 0, 0, .null, [])) (y_s := (125, [some (.ref _), some (.int _), some (.int _), some (.int _), some (.int _), some (.int _), some (.int _), some (.int _), some (.ref _)], [.ref _, .ref _], _)) rfl (u_ rfl) ?_
      refine w_t (pc := 125) (e_s := (3, 1, 0, 0, 0, .null, [])) (y_s := (126, [some (.ref _), some (.int _), some (.int _), some (.int _), some (.int _), some (.int _), some (.int _), some (.int _), some (.ref _)], [.ref _, .ref _, .ref _], _)) rfl (u_ rfl) ?_
      refine w20r (pc := 126) (len_s := 3) (q_s := 71) rfl (krq hk rfl) ?_
      refine w_t (pc := 129) (e_s := (1, 1, 1, 0, 0, .null, [])) (y_s := (130, [some (.ref _), some (.int _), some (.int _), some (.int _), some (.int _), some (.int _), some (.int _), some (.int _), some (.ref _)], [.int _, .ref _, .ref _, .ref _], _)) rfl (u_ rfl) ?_
      refine w_t (pc := 130) (e_s := (0, 2, 0, 0, 0, .int 10, [])) (y_s := (132, [some (.ref _), some (.int _), some (.int _), some (.int _), some (.int _), some (.int _), some (.int _), some (.int _), some (.ref _)], [.int _, .int _, .ref _, .ref _, .ref _], _)) rfl (u_ rfl) ?_
      refine w8m (pc := 132) (len_s := 1) rfl ?_
      refine w24 (g_s := fun j_ => 76 + 2 * j_) (pc := 133) (len_s := 1) hk rfl (hk.1 71 4 6 rfl rfl) kg71 (fun c7_s => ?_)
      replace t_s := t_s c7_s
      refine w_t (pc := 134) (e_s := (3, 1, 0, 0, 0, .null, [])) (y_s := (135, [some (.ref _), some (.int _), some (.int _), some (.int _), some (.int _), some (.int _), some (.int _), some (.int _), some (.ref _)], [.ref _, .ref _, .ref _, .ref _], _)) rfl (u_ rfl) ?_
      refine w20r (pc := 135) (len_s := 3) (q_s := 7) rfl (krq hk rfl) ?_
      refine wcI (pc := 138) (len_s := 3) rfl rfl (l := [some (.ref _), some (.ref _), some (.ref _), some (.ref _), none, none]) rfl (wmI t_s (fun v8 h8 hk t_s => ?_))
      replace t_s := t_s hk
      refine w_t (pc := 141) (e_s := (0, 2, 0, 0, 0, .int (-2), [])) (y_s := (143, [some (.ref _), some (.int _), some (.int _), some (.int _), some (.int _), some (.int _), some (.int _), some (.int _), some (.ref _)], [.int _, .int _], _)) rfl (u_ rfl) ?_
      refine wi1 (pc := 143) (len_s := 3) (Y := -2) rfl rfl (by decide) (fun c9_s => ?_) (fun c9_s => ?_)
      · replace t_s := t_s.1 c9_s
        refine w_t (pc := 146) (e_s := (1, 2, 6, 0, 0, .null, [])) (y_s := (148, [some (.ref _), some (.int _), some (.int _), some (.int _), some (.int _), some (.int _), some (.int _), some (.int _), some (.ref _)], [.int _], _)) rfl (u_ rfl) ?_
        refine w_t (pc := 148) (e_s := (0, 1, 0, 0, 0, .int 1, [])) (y_s := (149, [some (.ref _), some (.int _), some (.int _), some (.int _), some (.int _), some (.int _), some (.int _), some (.int _), some (.ref _)], [.int _, .int _], _)) rfl (u_ rfl) ?_
        refine w_t (pc := 149) (e_s := (1, 2, 7, 0, 0, .null, [])) (y_s := (151, [some (.ref _), some (.int _), some (.int _), some (.int _), some (.int _), some (.int _), some (.int _), some (.int _), some (.ref _)], [.int _, .int _, .int _], _)) rfl (u_ rfl) ?_
        refine w_t (pc := 151) (e_s := (7, 1, 0, 6, 0, .null, [])) (y_s := (152, [some (.ref _), some (.int _), some (.int _), some (.int _), some (.int _), some (.int _), some (.int _), some (.int _), some (.ref _)], [.int ((_ : Int32) <<< ((_ : Int32) &&& 31)), .int _], _)) rfl (u_ rfl) ?_
        refine w_t (pc := 152) (e_s := (7, 1, 0, 4, 0, .null, [])) (y_s := (153, [some (.ref _), some (.int _), some (.int _), some (.int _), some (.int _), some (.int _), some (.int _), some (.int _), some (.ref _)], [.int (_ ||| _)], _)) rfl (u_ rfl) ?_
        refine w_t (pc := 153) (e_s := (4, 2, 6, 0, 0, .null, [])) (y_s := (155, [some (.ref _), some (.int _), some (.int _), some (.int _), some (.int _), some (.int _), some (.int _), some (.int _), some (.ref _)], [], _)) rfl (u_ rfl) ?_
        refine w_t (pc := 155) (e_s := (19, 3, 7, 0, 0, .int 1, [])) (y_s := (158, [some (.ref _), some (.int _), some (.int _), some (.int _), some (.int _), some (.int _), some (.int _), some (.int _), some (.ref _)], [], _)) rfl (u_ rfl) ?_
        refine w_t (pc := 158) (e_s := (17, 3, 84, 0, 0, .null, [])) (y_s := (84, [some (.ref _), some (.int _), some (.int _), some (.int _), some (.int _), some (.int _), some (.int _), some (.int _), some (.ref _)], [], _)) rfl (u_ rfl) ?_
        exact t_s
      · replace t_s := t_s.2 c9_s
        refine w_t (pc := 155) (e_s := (19, 3, 7, 0, 0, .int 1, [])) (y_s := (158, [some (.ref _), some (.int _), some (.int _), some (.int _), some (.int _), some (.int _), some (.int _), some (.int _), some (.ref _)], [], _)) rfl (u_ rfl) ?_
        refine w_t (pc := 158) (e_s := (17, 3, 84, 0, 0, .null, [])) (y_s := (84, [some (.ref _), some (.int _), some (.int _), some (.int _), some (.int _), some (.int _), some (.int _), some (.int _), some (.ref _)], [], _)) rfl (u_ rfl) ?_
        exact t_s
/-- ColdShodModel.judge(II)I, from 0 on -/
theorem sg_205_0 {F_s : Nat} {x1_s : Int32} {x2_s : Int32} {h_s : zH} {K_s : Int32 → zH → Prop} (hk : hKn h_s) (t_s : wF F_s 203 (0, [some (.ref 102), some (.int x1_s)], [], h_s) (gI (fun v1_s h1 => hKn h1 → (v1_s.toInt = -1 → K_s (-1) h1) ∧ (¬ v1_s.toInt = -1 → ((x2_s.toInt < 0 → K_s (-1) h1) ∧ (¬ x2_s.toInt < 0 → ((((h1.2.1 102 7) - 1).toInt < x2_s.toInt → K_s (-1) h1) ∧ (¬ ((h1.2.1 102 7) - 1).toInt < x2_s.toInt → wF F_s 203 (0, [some (.ref 102), some (.int x1_s)], [], h1) (gI (fun v5 h5 => hKn h5 → (v5.toInt < 0 → wF F_s 203 (0, [some (.ref 102), some (.int x1_s)], [], h5) (gI (fun v7 h7 => hKn h7 → K_s v7 h7))) ∧ (¬ v5.toInt < 0 → wF F_s 204 (0, [some (.ref 102), some (.int x1_s), some (.int x2_s), none, none], [], h5) (gI (fun v8 h8 => hKn h8 → K_s v8 h8))))))))))))) : wF (F_s + 1) 205 (0, [some (.ref 102), some (.int x1_s), some (.int x2_s)], [], h_s) (gI K_s) := by
  refine w_0 (pc := 0) (e_s := (3, 1, 0, 0, 0, .null, [])) (y_s := (1, [some (.ref _), some (.int _), some (.int _)], [.ref _], _)) rfl (u_ rfl) ?_
  refine w_t (pc := 1) (e_s := (1, 1, 1, 0, 0, .null, [])) (y_s := (2, [some (.ref _), some (.int _), some (.int _)], [.int _, .ref _], _)) rfl (u_ rfl) ?_
  refine wcI (pc := 2) (len_s := 3) rfl rfl (l := [some (.ref _), some (.int _)]) rfl (wmI t_s (fun v1_s h1 hk t_s => ?_))
  replace t_s := t_s hk
  refine w_t (pc := 5) (e_s := (0, 1, 0, 0, 0, .int (-1), [])) (y_s := (6, [some (.ref _), some (.int _), some (.int _)], [.int _, .int _], _)) rfl (u_ rfl) ?_
  refine wi0 (pc := 6) (len_s := 3) (Y := -1) rfl rfl (by decide) (fun c2_s => ?_) (fun c2_s => ?_)
  · replace t_s := t_s.1 c2_s
    refine w_t (pc := 18) (e_s := (0, 1, 0, 0, 0, .int (-1), [])) (y_s := (19, [some (.ref _), some (.int _), some (.int _)], [.int _], _)) rfl (u_ rfl) ?_
    exact wrI (pc := 19) (len_s := 1) rfl hk t_s
  · replace t_s := t_s.2 c2_s
    refine w_t (pc := 9) (e_s := (3, 1, 0, 0, 0, .null, [])) (y_s := (10, [some (.ref _), some (.int _), some (.int _)], [.ref _], _)) rfl (u_ rfl) ?_
    refine w_t (pc := 10) (e_s := (1, 1, 2, 0, 0, .null, [])) (y_s := (11, [some (.ref _), some (.int _), some (.int _)], [.int _, .ref _], _)) rfl (u_ rfl) ?_
    refine w_t (pc := 11) (e_s := (10, 1, 0, 0, 0, .null, [])) (y_s := (12, [some (.ref _), some (.int _), some (.int _)], [.long (Int32.toInt64 _), .ref _], _)) rfl (u_ rfl) ?_
    refine wcI (pc := 12) (len_s := 3) rfl rfl (l := [some (.ref _), some (.long _), none]) rfl ?_
    refine w_t (pc := 0) (e_s := (2, 1, 1, 0, 0, .null, [])) (y_s := (1, [some (.ref _), some (.long _), none], [.long _], _)) rfl (u_ rfl) ?_
    refine w_t (pc := 1) (e_s := (0, 1, 0, 0, 0, .long 0, [])) (y_s := (2, [some (.ref _), some (.long _), none], [.long _, .long _], _)) rfl (u_ rfl) ?_
    refine w_t (pc := 2) (e_s := (3, 1, 0, 0, 0, .null, [])) (y_s := (3, [some (.ref _), some (.long _), none], [.ref _, .long _, .long _], _)) rfl (u_ rfl) ?_
    refine w20 (pc := 3) (len_s := 3) rfl ?_
    refine w_t (pc := 6) (e_s := (0, 1, 0, 0, 0, .int 1, [])) (y_s := (7, [some (.ref _), some (.long _), none], [.int _, .int _, .long _, .long _], _)) rfl (u_ rfl) ?_
    refine w_t (pc := 7) (e_s := (7, 1, 0, 1, 0, .null, [])) (y_s := (8, [some (.ref _), some (.long _), none], [.int (_ - _), .long _, .long _], _)) rfl (u_ rfl) ?_
    refine w_t (pc := 8) (e_s := (10, 1, 0, 0, 0, .null, [])) (y_s := (9, [some (.ref _), some (.long _), none], [.long (Int32.toInt64 _), .long _, .long _], _)) rfl (u_ rfl) ?_
    refine wcI (pc := 9) (len_s := 3) rfl rfl (l := [some (.long _), none, some (.long _), none, some (.long _), none]) rfl ?_
    refine w_t (pc := 0) (e_s := (2, 1, 0, 0, 0, .null, [])) (y_s := (1, [some (.long _), none, some (.long _), none, some (.long _), none], [.long _], _)) rfl (u_ rfl) ?_
    refine w_t (pc := 1) (e_s := (2, 1, 2, 0, 0, .null, [])) (y_s := (2, [some (.long _), none, some (.long _), none, some (.long _), none], [.long _, .long _], _)) rfl (u_ rfl) ?_
    refine w_t (pc := 2) (e_s := (14, 1, 0, 0, 0, .null, [])) (y_s := (3, [some (.long _), none, some (.long _), none, some (.long _), none], [.int (lg_cmp _ _)], _)) rfl (u_ rfl) ?_
    refine wl2 (pc := 3) (len_s := 3) (Y := 0) rfl (Int32.toInt_toInt64 _) (by decide) (fun c3_s => ?_) (fun c3_s => ?_)
    · replace t_s := t_s.1 c3_s
      refine w_t (pc := 17) (e_s := (0, 1, 0, 0, 0, .int 0, [])) (y_s := (18, [some (.long _), none, some (.long _), none, some (.long _), none], [.int _], _)) rfl (u_ rfl) ?_
      refine wrI (pc := 18) (len_s := 1) rfl hk ?_
      show wF _ 152 (12, [some (.ref _), some (.long _), none], [.int _], _) _
      refine wrI (pc := 12) (len_s := 1) rfl hk ?_
      show wF _ 205 (15, [some (.ref _), some (.int _), some (.int _)], [.int _], _) _
      refine w_t (pc := 15) (e_s := (15, 3, 20, 1, 0, .null, [])) (y_s := (18, [some (.ref _), some (.int _), some (.int _)], [], _)) rfl (u_ rfl) ?_
      refine w_t (pc := 18) (e_s := (0, 1, 0, 0, 0, .int (-1), [])) (y_s := (19, [some (.ref _), some (.int _), some (.int _)], [.int _], _)) rfl (u_ rfl) ?_
      exact wrI (pc := 19) (len_s := 1) rfl hk t_s
    · replace t_s := t_s.2 c3_s
      refine w_t (pc := 6) (e_s := (2, 1, 0, 0, 0, .null, [])) (y_s := (7, [some (.long _), none, some (.long _), none, some (.long _), none], [.long _], _)) rfl (u_ rfl) ?_
      refine w_t (pc := 7) (e_s := (2, 2, 4, 0, 0, .null, [])) (y_s := (9, [some (.long _), none, some (.long _), none, some (.long _), none], [.long _, .long _], _)) rfl (u_ rfl) ?_
      refine w_t (pc := 9) (e_s := (14, 1, 0, 0, 0, .null, [])) (y_s := (10, [some (.long _), none, some (.long _), none, some (.long _), none], [.int (lg_cmp _ _)], _)) rfl (u_ rfl) ?_
      refine wl4 (pc := 10) (len_s := 3) rfl (Int32.toInt_toInt64 _) (Int32.toInt_toInt64 _) (fun c4_s => ?_) (fun c4_s => ?_)
      · replace t_s := t_s.1 c4_s
        refine w_t (pc := 17) (e_s := (0, 1, 0, 0, 0, .int 0, [])) (y_s := (18, [some (.long _), none, some (.long _), none, some (.long _), none], [.int _], _)) rfl (u_ rfl) ?_
        refine wrI (pc := 18) (len_s := 1) rfl hk ?_
        show wF _ 152 (12, [some (.ref _), some (.long _), none], [.int _], _) _
        refine wrI (pc := 12) (len_s := 1) rfl hk ?_
        show wF _ 205 (15, [some (.ref _), some (.int _), some (.int _)], [.int _], _) _
        refine w_t (pc := 15) (e_s := (15, 3, 20, 1, 0, .null, [])) (y_s := (18, [some (.ref _), some (.int _), some (.int _)], [], _)) rfl (u_ rfl) ?_
        refine w_t (pc := 18) (e_s := (0, 1, 0, 0, 0, .int (-1), [])) (y_s := (19, [some (.ref _), some (.int _), some (.int _)], [.int _], _)) rfl (u_ rfl) ?_
        exact wrI (pc := 19) (len_s := 1) rfl hk t_s
      · replace t_s := t_s.2 c4_s
        refine w_t (pc := 13) (e_s := (0, 1, 0, 0, 0, .int 1, [])) (y_s := (14, [some (.long _), none, some (.long _), none, some (.long _), none], [.int _], _)) rfl (u_ rfl) ?_
        refine w_t (pc := 14) (e_s := (17, 3, 18, 0, 0, .null, [])) (y_s := (18, [some (.long _), none, some (.long _), none, some (.long _), none], [.int _], _)) rfl (u_ rfl) ?_
        refine wrI (pc := 18) (len_s := 1) rfl hk ?_
        show wF _ 152 (12, [some (.ref _), some (.long _), none], [.int _], _) _
        refine wrI (pc := 12) (len_s := 1) rfl hk ?_
        show wF _ 205 (15, [some (.ref _), some (.int _), some (.int _)], [.int _], _) _
        refine w_t (pc := 15) (e_s := (15, 3, 20, 1, 0, .null, [])) (y_s := (20, [some (.ref _), some (.int _), some (.int _)], [], _)) rfl (u_ rfl) ?_
        refine w_t (pc := 20) (e_s := (3, 1, 0, 0, 0, .null, [])) (y_s := (21, [some (.ref _), some (.int _), some (.int _)], [.ref _], _)) rfl (u_ rfl) ?_
        refine w_t (pc := 21) (e_s := (1, 1, 1, 0, 0, .null, [])) (y_s := (22, [some (.ref _), some (.int _), some (.int _)], [.int _, .ref _], _)) rfl (u_ rfl) ?_
        refine wcI (pc := 22) (len_s := 3) rfl rfl (l := [some (.ref _), some (.int _)]) rfl (wmI t_s (fun v5 h5 hk t_s => ?_))
        replace t_s := t_s hk
        refine wq3 (pc := 25) (len_s := 3) rfl rfl (fun c6_s => ?_) (fun c6_s => ?_)
        · replace t_s := t_s.1 c6_s
          refine w_t (pc := 28) (e_s := (3, 1, 0, 0, 0, .null, [])) (y_s := (29, [some (.ref _), some (.int _), some (.int _)], [.ref _], _)) rfl (u_ rfl) ?_
          refine w_t (pc := 29) (e_s := (1, 1, 1, 0, 0, .null, [])) (y_s := (30, [some (.ref _), some (.int _), some (.int _)], [.int _, .ref _], _)) rfl (u_ rfl) ?_
          refine wcI (pc := 30) (len_s := 3) rfl rfl (l := [some (.ref _), some (.int _)]) rfl (wmI t_s (fun v7 h7 hk t_s => ?_))
          replace t_s := t_s hk
          refine w_t (pc := 33) (e_s := (17, 3, 42, 0, 0, .null, [])) (y_s := (42, [some (.ref _), some (.int _), some (.int _)], [.int _], _)) rfl (u_ rfl) ?_
          exact wrI (pc := 42) (len_s := 1) rfl hk t_s
        · replace t_s := t_s.2 c6_s
          refine w_t (pc := 36) (e_s := (3, 1, 0, 0, 0, .null, [])) (y_s := (37, [some (.ref _), some (.int _), some (.int _)], [.ref _], _)) rfl (u_ rfl) ?_
          refine w_t (pc := 37) (e_s := (1, 1, 1, 0, 0, .null, [])) (y_s := (38, [some (.ref _), some (.int _), some (.int _)], [.int _, .ref _], _)) rfl (u_ rfl) ?_
          refine w_t (pc := 38) (e_s := (1, 1, 2, 0, 0, .null, [])) (y_s := (39, [some (.ref _), some (.int _), some (.int _)], [.int _, .int _, .ref _], _)) rfl (u_ rfl) ?_
          refine wcI (pc := 39) (len_s := 3) rfl rfl (l := [some (.ref _), some (.int _), some (.int _), none, none]) rfl (wmI t_s (fun v8 h8 hk t_s => ?_))
          replace t_s := t_s hk
          exact wrI (pc := 42) (len_s := 1) rfl hk t_s
