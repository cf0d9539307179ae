/-! What ended runs give: printed by a program (wip/fun/sg.py). -/
/-- ColdShod$Country.wearOf(LColdShod$Idea;LColdShod$Road;)I, from 0 on -/
theorem sg_23_0 {F_s : Nat} {d_s ro : Nat} {h_s : zH} {K_s : Int32 → zH → Prop} (hk : hKn h_s) (t_s : wF F_s 23 (30, [some (.ref 7), some (.ref d_s), some (.ref ro)], [], (h_s.1, zup (zup (zup h_s.2.1 13 0 (h_s.2.1 d_s 0)) 13 1 ((zup h_s.2.1 13 0 (h_s.2.1 d_s 0)) d_s 2)) 13 2 ((zup (zup h_s.2.1 13 0 (h_s.2.1 d_s 0)) 13 1 ((zup h_s.2.1 13 0 (h_s.2.1 d_s 0)) d_s 2)) d_s 3), h_s.2.2.1, h_s.2.2.2)) (gI K_s)) : wF (F_s + 1) 23 (0, [some (.ref 7), some (.ref d_s), some (.ref ro)], [], h_s) (gI K_s) := by
  refine w_0 (pc := 0) (e_s := (3, 1, 0, 0, 0, .null, [])) (y_s := (1, [some (.ref _), some (.ref _), some (.ref _)], [.ref _], _)) rfl (u_ rfl) ?_
  refine w20r (pc := 1) (len_s := 3) (q_s := 13) rfl (krq hk rfl) ?_
  refine w_t (pc := 4) (e_s := (0, 1, 0, 0, 0, .int 0, [])) (y_s := (5, [some (.ref _), some (.ref _), some (.ref _)], [.int _, .ref _], _)) rfl (u_ rfl) ?_
  refine w_t (pc := 5) (e_s := (3, 1, 1, 0, 0, .null, [])) (y_s := (6, [some (.ref _), some (.ref _), some (.ref _)], [.ref _, .int _, .ref _], _)) rfl (u_ rfl) ?_
  refine w20 (pc := 6) (len_s := 3) rfl ?_
  refine w25 (pc := 9) (len_s := 1) rfl (hk.1 13 0 6 rfl rfl) (fun c1_s => ?_)
  refine w_t (pc := 10) (e_s := (3, 1, 0, 0, 0, .null, [])) (y_s := (11, [some (.ref _), some (.ref _), some (.ref _)], [.ref _], _)) rfl (u_ rfl) ?_
  refine w20r (pc := 11) (len_s := 3) (q_s := 13) rfl (krq hk rfl) ?_
  refine w_t (pc := 14) (e_s := (0, 1, 0, 0, 0, .int 1, [])) (y_s := (15, [some (.ref _), some (.ref _), some (.ref _)], [.int _, .ref _], _)) rfl (u_ rfl) ?_
  refine w_t (pc := 15) (e_s := (3, 1, 1, 0, 0, .null, [])) (y_s := (16, [some (.ref _), some (.ref _), some (.ref _)], [.ref _, .int _, .ref _], _)) rfl (u_ rfl) ?_
  refine w20 (pc := 16) (len_s := 3) rfl ?_
  refine w25 (pc := 19) (len_s := 1) rfl (hk.1 13 0 6 rfl rfl) (fun c2_s => ?_)
  refine w_t (pc := 20) (e_s := (3, 1, 0, 0, 0, .null, [])) (y_s := (21, [some (.ref _), some (.ref _), some (.ref _)], [.ref _], _)) rfl (u_ rfl) ?_
  refine w20r (pc := 21) (len_s := 3) (q_s := 13) rfl (krq hk rfl) ?_
  refine w_t (pc := 24) (e_s := (0, 1, 0, 0, 0, .int 2, [])) (y_s := (25, [some (.ref _), some (.ref _), some (.ref _)], [.int _, .ref _], _)) rfl (u_ rfl) ?_
  refine w_t (pc := 25) (e_s := (3, 1, 1, 0, 0, .null, [])) (y_s := (26, [some (.ref _), some (.ref _), some (.ref _)], [.ref _, .int _, .ref _], _)) rfl (u_ rfl) ?_
  refine w20 (pc := 26) (len_s := 3) rfl ?_
  refine w25 (pc := 29) (len_s := 1) rfl (hk.1 13 0 6 rfl rfl) (fun c3_s => ?_)
  exact t_s
/-- ColdShod$Country.wearOf(LColdShod$Idea;LColdShod$Road;)I, from 30 on -/
theorem sg_23_30 {F_s : Nat} {d_s ro : Nat} {h_s : zH} {K_s : Int32 → zH → Prop} (hk : hKn h_s) (t_s : ((h_s.2.1 d_s 6).toInt < 0 → wF F_s 23 (69, [some (.ref 7), some (.ref d_s), some (.ref ro)], [], (h_s.1, zup h_s.2.1 13 3 9, h_s.2.2.1, h_s.2.2.2)) (gI K_s)) ∧ (¬ (h_s.2.1 d_s 6).toInt < 0 → (((h_s.2.1 d_s 6).toInt < (h_s.2.1 7 6).toInt → (zix (h_s.2.1 d_s 6) < 6 → wF F_s 23 (69, [some (.ref 7), some (.ref d_s), some (.ref ro)], [], (h_s.1, zup h_s.2.1 13 3 (if ((h_s.2.1 d_s 1) - (h_s.2.1 8 (zix (h_s.2.1 d_s 6)))) < 0 then -((h_s.2.1 d_s 1) - (h_s.2.1 8 (zix (h_s.2.1 d_s 6)))) else ((h_s.2.1 d_s 1) - (h_s.2.1 8 (zix (h_s.2.1 d_s 6))))), h_s.2.2.1, h_s.2.2.2)) (gI K_s))) ∧ (¬ (h_s.2.1 d_s 6).toInt < (h_s.2.1 7 6).toInt → wF F_s 23 (69, [some (.ref 7), some (.ref d_s), some (.ref ro)], [], (h_s.1, zup h_s.2.1 13 3 9, h_s.2.2.1, h_s.2.2.2)) (gI K_s))))) : wF (F_s + 1) 23 (30, [some (.ref 7), some (.ref d_s), some (.ref ro)], [], h_s) (gI K_s) := by
  refine w_0 (pc := 30) (e_s := (3, 1, 0, 0, 0, .null, [])) (y_s := (31, [some (.ref _), some (.ref _), some (.ref _)], [.ref _], _)) rfl (u_ rfl) ?_
  refine w20r (pc := 31) (len_s := 3) (q_s := 13) rfl (krq hk rfl) ?_
  refine w_t (pc := 34) (e_s := (0, 1, 0, 0, 0, .int 3, [])) (y_s := (35, [some (.ref _), some (.ref _), some (.ref _)], [.int _, .ref _], _)) rfl (u_ rfl) ?_
  refine w_t (pc := 35) (e_s := (3, 1, 0, 0, 0, .null, [])) (y_s := (36, [some (.ref _), some (.ref _), some (.ref _)], [.ref _, .int _, .ref _], _)) rfl (u_ rfl) ?_
  refine w_t (pc := 36) (e_s := (3, 1, 1, 0, 0, .null, [])) (y_s := (37, [some (.ref _), some (.ref _), some (.ref _)], [.ref _, .ref _, .int _, .ref _], _)) rfl (u_ rfl) ?_
  refine w20 (pc := 37) (len_s := 3) rfl ?_
  refine wcI (pc := 40) (len_s := 3) rfl rfl (l := [some (.ref _), some (.int _)]) rfl ?_
  refine w_t (pc := 0) (e_s := (1, 1, 1, 0, 0, .null, [])) (y_s := (1, [some (.ref _), some (.int _)], [.int _], _)) rfl (u_ rfl) ?_
  refine wq2 (pc := 1) (len_s := 3) rfl rfl (fun c1_s => ?_) (fun c1_s => ?_)
  · replace t_s := t_s.1 c1_s
    refine w_t (pc := 16) (e_s := (0, 1, 0, 0, 0, .int 0, [])) (y_s := (17, [some (.ref _), some (.int _)], [.int _], _)) rfl (u_ rfl) ?_
    refine wrI (pc := 17) (len_s := 1) rfl hk ?_
    show wF _ 23 (43, [some (.ref _), some (.ref _), some (.ref _)], [.int _, .int _, .ref _], _) _
    refine w_t (pc := 43) (e_s := (15, 3, 66, 0, 0, .null, [])) (y_s := (66, [some (.ref _), some (.ref _), some (.ref _)], [.int _, .ref _], _)) rfl (u_ rfl) ?_
    refine w_t (pc := 66) (e_s := (0, 2, 0, 0, 0, .int 9, [])) (y_s := (68, [some (.ref _), some (.ref _), some (.ref _)], [.int _, .int _, .ref _], _)) rfl (u_ rfl) ?_
    refine w25 (pc := 68) (len_s := 1) rfl (hk.1 13 0 6 rfl rfl) (fun c2_s => ?_)
    exact t_s
  · replace t_s := t_s.2 c1_s
    refine w_t (pc := 4) (e_s := (1, 1, 1, 0, 0, .null, [])) (y_s := (5, [some (.ref _), some (.int _)], [.int _], _)) rfl (u_ rfl) ?_
    refine w_t (pc := 5) (e_s := (3, 1, 0, 0, 0, .null, [])) (y_s := (6, [some (.ref _), some (.int _)], [.ref _, .int _], _)) rfl (u_ rfl) ?_
    refine w20 (pc := 6) (len_s := 3) rfl ?_
    refine wi3 (pc := 9) (len_s := 3) rfl rfl rfl (fun c3_s => ?_) (fun c3_s => ?_)
    · replace t_s := t_s.1 c3_s
      refine w_t (pc := 12) (e_s := (0, 1, 0, 0, 0, .int 1, [])) (y_s := (13, [some (.ref _), some (.int _)], [.int _], _)) rfl (u_ rfl) ?_
      refine w_t (pc := 13) (e_s := (17, 3, 17, 0, 0, .null, [])) (y_s := (17, [some (.ref _), some (.int _)], [.int _], _)) rfl (u_ rfl) ?_
      refine wrI (pc := 17) (len_s := 1) rfl hk ?_
      show wF _ 23 (43, [some (.ref _), some (.ref _), some (.ref _)], [.int _, .int _, .ref _], _) _
      refine w_t (pc := 43) (e_s := (15, 3, 66, 0, 0, .null, [])) (y_s := (46, [some (.ref _), some (.ref _), some (.ref _)], [.int _, .ref _], _)) rfl (u_ rfl) ?_
      refine w_t (pc := 46) (e_s := (3, 1, 1, 0, 0, .null, [])) (y_s := (47, [some (.ref _), some (.ref _), some (.ref _)], [.ref _, .int _, .ref _], _)) rfl (u_ rfl) ?_
      refine w20 (pc := 47) (len_s := 3) rfl ?_
      refine w_t (pc := 50) (e_s := (3, 1, 0, 0, 0, .null, [])) (y_s := (51, [some (.ref _), some (.ref _), some (.ref _)], [.ref _, .int _, .int _, .ref _], _)) rfl (u_ rfl) ?_
      refine w20r (pc := 51) (len_s := 3) (q_s := 8) rfl (krq hk rfl) ?_
      refine w_t (pc := 54) (e_s := (3, 1, 1, 0, 0, .null, [])) (y_s := (55, [some (.ref _), some (.ref _), some (.ref _)], [.ref _, .ref _, .int _, .int _, .ref _], _)) rfl (u_ rfl) ?_
      refine w20 (pc := 55) (len_s := 3) rfl ?_
      refine w22 (pc := 58) (len_s := 1) rfl (hk.1 8 0 6 rfl rfl) (fun c4_s => ?_)
      replace t_s := t_s c4_s
      refine w_t (pc := 59) (e_s := (7, 1, 0, 1, 0, .null, [])) (y_s := (60, [some (.ref _), some (.ref _), some (.ref _)], [.int (_ - _), .int _, .ref _], _)) rfl (u_ rfl) ?_
      refine w_t (pc := 60) (e_s := (31, 3, 0, 2, 0, .null, [(0, 774), (0, 775), (0, 776), (0, 777)])) (y_s := (63, [some (.ref _), some (.ref _), some (.ref _)], [.int _, .int _, .ref _], _)) rfl (u_ rfl) ?_
      refine w_t (pc := 63) (e_s := (17, 3, 68, 0, 0, .null, [])) (y_s := (68, [some (.ref _), some (.ref _), some (.ref _)], [.int _, .int _, .ref _], _)) rfl (u_ rfl) ?_
      refine w25 (pc := 68) (len_s := 1) rfl (hk.1 13 0 6 rfl rfl) (fun c5_s => ?_)
      exact t_s
    · replace t_s := t_s.2 c3_s
      refine w_t (pc := 16) (e_s := (0, 1, 0, 0, 0, .int 0, [])) (y_s := (17, [some (.ref _), some (.int _)], [.int _], _)) rfl (u_ rfl) ?_
      refine wrI (pc := 17) (len_s := 1) rfl hk ?_
      show wF _ 23 (43, [some (.ref _), some (.ref _), some (.ref _)], [.int _, .int _, .ref _], _) _
      refine w_t (pc := 43) (e_s := (15, 3, 66, 0, 0, .null, [])) (y_s := (66, [some (.ref _), some (.ref _), some (.ref _)], [.int _, .ref _], _)) rfl (u_ rfl) ?_
      refine w_t (pc := 66) (e_s := (0, 2, 0, 0, 0, .int 9, [])) (y_s := (68, [some (.ref _), some (.ref _), some (.ref _)], [.int _, .int _, .ref _], _)) rfl (u_ rfl) ?_
      refine w25 (pc := 68) (len_s := 1) rfl (hk.1 13 0 6 rfl rfl) (fun c6_s => ?_)
      exact t_s
/-- ColdShod$Country.wearOf(LColdShod$Idea;LColdShod$Road;)I, from 69 on -/
theorem sg_23_69 {F_s : Nat} {d_s ro : Nat} {h_s : zH} {K_s : Int32 → zH → Prop} (hk : hKn h_s) (t_s : ∀ q3_s, h_s.2.2.2 7 9 = some q3_s → q3_s = 14 ∨ q3_s = 17 → wF F_s 58 (0, [some (.ref q3_s), some (.ref 13), none, none, none, none, none, none], [], (h_s.1, zup (zup h_s.2.1 13 4 (h_s.2.1 ro 3)) 13 5 ((zup h_s.2.1 13 4 (h_s.2.1 ro 3)) ro 4), h_s.2.2.1, h_s.2.2.2)) (gI (fun v4_s h4 => hKn h4 → K_s (if 0 < (if v4_s < 9 then v4_s else 9) then (if v4_s < 9 then v4_s else 9) else 0) h4))) : wF (F_s + 1) 23 (69, [some (.ref 7), some (.ref d_s), some (.ref ro)], [], h_s) (gI K_s) := by
  refine w_0 (pc := 69) (e_s := (3, 1, 0, 0, 0, .null, [])) (y_s := (70, [some (.ref _), some (.ref _), some (.ref _)], [.ref _], _)) rfl (u_ rfl) ?_
  refine w20r (pc := 70) (len_s := 3) (q_s := 13) rfl (krq hk rfl) ?_
  refine w_t (pc := 73) (e_s := (0, 1, 0, 0, 0, .int 4, [])) (y_s := (74, [some (.ref _), some (.ref _), some (.ref _)], [.int _, .ref _], _)) rfl (u_ rfl) ?_
  refine w_t (pc := 74) (e_s := (3, 1, 2, 0, 0, .null, [])) (y_s := (75, [some (.ref _), some (.ref _), some (.ref _)], [.ref _, .int _, .ref _], _)) rfl (u_ rfl) ?_
  refine w20 (pc := 75) (len_s := 3) rfl ?_
  refine w25 (pc := 78) (len_s := 1) rfl (hk.1 13 0 6 rfl rfl) (fun c1_s => ?_)
  refine w_t (pc := 79) (e_s := (3, 1, 0, 0, 0, .null, [])) (y_s := (80, [some (.ref _), some (.ref _), some (.ref _)], [.ref _], _)) rfl (u_ rfl) ?_
  refine w20r (pc := 80) (len_s := 3) (q_s := 13) rfl (krq hk rfl) ?_
  refine w_t (pc := 83) (e_s := (0, 1, 0, 0, 0, .int 5, [])) (y_s := (84, [some (.ref _), some (.ref _), some (.ref _)], [.int _, .ref _], _)) rfl (u_ rfl) ?_
  refine w_t (pc := 84) (e_s := (3, 1, 2, 0, 0, .null, [])) (y_s := (85, [some (.ref _), some (.ref _), some (.ref _)], [.ref _, .int _, .ref _], _)) rfl (u_ rfl) ?_
  refine w20 (pc := 85) (len_s := 3) rfl ?_
  refine w25 (pc := 88) (len_s := 1) rfl (hk.1 13 0 6 rfl rfl) (fun c2_s => ?_)
  refine w_t (pc := 89) (e_s := (0, 1, 0, 0, 0, .int 0, [])) (y_s := (90, [some (.ref _), some (.ref _), some (.ref _)], [.int _], _)) rfl (u_ rfl) ?_
  refine w_t (pc := 90) (e_s := (0, 2, 0, 0, 0, .int 9, [])) (y_s := (92, [some (.ref _), some (.ref _), some (.ref _)], [.int _, .int _], _)) rfl (u_ rfl) ?_
  refine w_t (pc := 92) (e_s := (3, 1, 0, 0, 0, .null, [])) (y_s := (93, [some (.ref _), some (.ref _), some (.ref _)], [.ref _, .int _, .int _], _)) rfl (u_ rfl) ?_
  obtain ⟨q3_s, r3, m3_s⟩ := krm hk (o := 7) (b_s := 9) rfl
  replace t_s := t_s q3_s r3 m3_s
  refine w20r (pc := 93) (len_s := 3) (q_s := q3_s) rfl r3 ?_
  refine w_t (pc := 96) (e_s := (3, 1, 0, 0, 0, .null, [])) (y_s := (97, [some (.ref _), some (.ref _), some (.ref _)], [.ref _, .ref _, .int _, .int _], _)) rfl (u_ rfl) ?_
  refine w20r (pc := 97) (len_s := 3) (q_s := 13) rfl (krq hk rfl) ?_
  refine wcI (pc := 100) (len_s := 3) rfl rfl (l := [some (.ref _), some (.ref _), none, none, none, none, none, none]) rfl (wmI t_s (fun v4_s h4 hk t_s => ?_))
  replace t_s := t_s hk
  refine w_t (pc := 103) (e_s := (31, 3, 0, 1, 0, .null, [(0, 779), (0, 780), (0, 781), (0, 777)])) (y_s := (106, [some (.ref _), some (.ref _), some (.ref _)], [.int _, .int _], _)) rfl (u_ rfl) ?_
  refine w_t (pc := 106) (e_s := (31, 3, 0, 0, 0, .null, [(0, 782), (0, 783), (0, 784), (0, 777)])) (y_s := (109, [some (.ref _), some (.ref _), some (.ref _)], [.int _], _)) rfl (u_ rfl) ?_
  exact wrI (pc := 109) (len_s := 1) rfl hk t_s
/-- ColdShod$Country.travel(LColdShod$Idea;LColdShod$Road;)I, from 0 on -/
theorem sg_24_0 {F_s : Nat} {d_s ro : Nat} {h_s : zH} {K_s : Int32 → zH → Prop} (hk : hKn h_s) (t_s : ((h_s.2.1 d_s 2).toInt < 99 → (((9 - ((h_s.2.1 d_s 2) / 11)).toInt < (h_s.2.1 ro 3).toInt → K_s 0 h_s) ∧ (¬ (9 - ((h_s.2.1 d_s 2) / 11)).toInt < (h_s.2.1 ro 3).toInt → wF F_s 23 (0, [some (.ref 7), some (.ref d_s), some (.ref ro)], [], h_s) (gI (fun v3 h3 => hKn h3 → wF F_s 24 (20, [some (.ref 7), some (.ref d_s), some (.ref ro), some (.int v3), some (.int 1)], [], h3) (gI K_s)))))) ∧ (¬ (h_s.2.1 d_s 2).toInt < 99 → K_s 0 h_s)) : wF (F_s + 1) 24 (0, [some (.ref 7), some (.ref d_s), some (.ref ro), none, none], [], h_s) (gI K_s) := by
  refine w_0 (pc := 0) (e_s := (3, 1, 1, 0, 0, .null, [])) (y_s := (1, [some (.ref _), some (.ref _), some (.ref _), none, none], [.ref _], _)) rfl (u_ rfl) ?_
  refine w_t (pc := 1) (e_s := (3, 1, 2, 0, 0, .null, [])) (y_s := (2, [some (.ref _), some (.ref _), some (.ref _), none, none], [.ref _, .ref _], _)) rfl (u_ rfl) ?_
  refine wcI (pc := 2) (len_s := 3) rfl rfl (l := [some (.ref _), some (.ref _)]) rfl ?_
  refine w_t (pc := 0) (e_s := (3, 1, 0, 0, 0, .null, [])) (y_s := (1, [some (.ref _), some (.ref _)], [.ref _], _)) rfl (u_ rfl) ?_
  refine wcI (pc := 1) (len_s := 3) rfl rfl (l := [some (.ref _)]) rfl ?_
  refine w_t (pc := 0) (e_s := (3, 1, 0, 0, 0, .null, [])) (y_s := (1, [some (.ref _)], [.ref _], _)) rfl (u_ rfl) ?_
  refine w20 (pc := 1) (len_s := 3) rfl ?_
  refine w_t (pc := 4) (e_s := (0, 2, 0, 0, 0, .int 99, [])) (y_s := (6, [some (.ref _)], [.int _, .int _], _)) rfl (u_ rfl) ?_
  refine wi2 (pc := 6) (len_s := 3) (Y := 99) rfl rfl (by decide) (fun c1_s => ?_) (fun c1_s => ?_)
  · replace t_s := t_s.1 c1_s
    refine w_t (pc := 13) (e_s := (0, 1, 0, 0, 0, .int 0, [])) (y_s := (14, [some (.ref _)], [.int _], _)) rfl (u_ rfl) ?_
    refine wrI (pc := 14) (len_s := 1) rfl hk ?_
    show wF _ 40 (4, [some (.ref _), some (.ref _)], [.int _], _) _
    refine w_t (pc := 4) (e_s := (15, 3, 19, 1, 0, .null, [])) (y_s := (7, [some (.ref _), some (.ref _)], [], _)) rfl (u_ rfl) ?_
    refine w_t (pc := 7) (e_s := (3, 1, 0, 0, 0, .null, [])) (y_s := (8, [some (.ref _), some (.ref _)], [.ref _], _)) rfl (u_ rfl) ?_
    refine w_t (pc := 8) (e_s := (3, 1, 1, 0, 0, .null, [])) (y_s := (9, [some (.ref _), some (.ref _)], [.ref _, .ref _], _)) rfl (u_ rfl) ?_
    refine wcI (pc := 9) (len_s := 3) rfl rfl (l := [some (.ref _), some (.ref _)]) rfl ?_
    refine w_t (pc := 0) (e_s := (3, 1, 1, 0, 0, .null, [])) (y_s := (1, [some (.ref _), some (.ref _)], [.ref _], _)) rfl (u_ rfl) ?_
    refine w20 (pc := 1) (len_s := 3) rfl ?_
    refine w_t (pc := 4) (e_s := (3, 1, 0, 0, 0, .null, [])) (y_s := (5, [some (.ref _), some (.ref _)], [.ref _, .int _], _)) rfl (u_ rfl) ?_
    refine wcI (pc := 5) (len_s := 3) rfl rfl (l := [some (.ref _)]) rfl ?_
    refine w_t (pc := 0) (e_s := (0, 2, 0, 0, 0, .int 9, [])) (y_s := (2, [some (.ref _)], [.int _], _)) rfl (u_ rfl) ?_
    refine w_t (pc := 2) (e_s := (3, 1, 0, 0, 0, .null, [])) (y_s := (3, [some (.ref _)], [.ref _, .int _], _)) rfl (u_ rfl) ?_
    refine w20 (pc := 3) (len_s := 3) rfl ?_
    refine w_t (pc := 6) (e_s := (0, 2, 0, 0, 0, .int 11, [])) (y_s := (8, [some (.ref _)], [.int _, .int _, .int _], _)) rfl (u_ rfl) ?_
    refine w8 (pc := 8) (len_s := 1) rfl ?_
    refine w_t (pc := 9) (e_s := (7, 1, 0, 1, 0, .null, [])) (y_s := (10, [some (.ref _)], [.int (_ - _)], _)) rfl (u_ rfl) ?_
    refine wrI (pc := 10) (len_s := 1) rfl hk ?_
    show wF _ 39 (8, [some (.ref _), some (.ref _)], [.int _, .int _], _) _
    refine wi4 (pc := 8) (len_s := 3) rfl rfl rfl (fun c2_s => ?_) (fun c2_s => ?_)
    · replace t_s := t_s.1 c2_s
      refine w_t (pc := 15) (e_s := (0, 1, 0, 0, 0, .int 0, [])) (y_s := (16, [some (.ref _), some (.ref _)], [.int _], _)) rfl (u_ rfl) ?_
      refine wrI (pc := 16) (len_s := 1) rfl hk ?_
      show wF _ 40 (12, [some (.ref _), some (.ref _)], [.int _], _) _
      refine w_t (pc := 12) (e_s := (15, 3, 19, 0, 0, .null, [])) (y_s := (19, [some (.ref _), some (.ref _)], [], _)) rfl (u_ rfl) ?_
      refine w_t (pc := 19) (e_s := (0, 1, 0, 0, 0, .int 0, [])) (y_s := (20, [some (.ref _), some (.ref _)], [.int _], _)) rfl (u_ rfl) ?_
      refine wrI (pc := 20) (len_s := 1) rfl hk ?_
      show wF _ 24 (5, [some (.ref _), some (.ref _), some (.ref _), none, none], [.int _], _) _
      refine w_t (pc := 5) (e_s := (15, 3, 10, 1, 0, .null, [])) (y_s := (8, [some (.ref _), some (.ref _), some (.ref _), none, none], [], _)) rfl (u_ rfl) ?_
      refine w_t (pc := 8) (e_s := (0, 1, 0, 0, 0, .int 0, [])) (y_s := (9, [some (.ref _), some (.ref _), some (.ref _), none, none], [.int _], _)) rfl (u_ rfl) ?_
      exact wrI (pc := 9) (len_s := 1) rfl hk t_s
    · replace t_s := t_s.2 c2_s
      refine w_t (pc := 11) (e_s := (0, 1, 0, 0, 0, .int 1, [])) (y_s := (12, [some (.ref _), some (.ref _)], [.int _], _)) rfl (u_ rfl) ?_
      refine w_t (pc := 12) (e_s := (17, 3, 16, 0, 0, .null, [])) (y_s := (16, [some (.ref _), some (.ref _)], [.int _], _)) rfl (u_ rfl) ?_
      refine wrI (pc := 16) (len_s := 1) rfl hk ?_
      show wF _ 40 (12, [some (.ref _), some (.ref _)], [.int _], _) _
      refine w_t (pc := 12) (e_s := (15, 3, 19, 0, 0, .null, [])) (y_s := (15, [some (.ref _), some (.ref _)], [], _)) rfl (u_ rfl) ?_
      refine w_t (pc := 15) (e_s := (0, 1, 0, 0, 0, .int 1, [])) (y_s := (16, [some (.ref _), some (.ref _)], [.int _], _)) rfl (u_ rfl) ?_
      refine w_t (pc := 16) (e_s := (17, 3, 20, 0, 0, .null, [])) (y_s := (20, [some (.ref _), some (.ref _)], [.int _], _)) rfl (u_ rfl) ?_
      refine wrI (pc := 20) (len_s := 1) rfl hk ?_
      show wF _ 24 (5, [some (.ref _), some (.ref _), some (.ref _), none, none], [.int _], _) _
      refine w_t (pc := 5) (e_s := (15, 3, 10, 1, 0, .null, [])) (y_s := (10, [some (.ref _), some (.ref _), some (.ref _), none, none], [], _)) rfl (u_ rfl) ?_
      refine w_t (pc := 10) (e_s := (3, 1, 0, 0, 0, .null, [])) (y_s := (11, [some (.ref _), some (.ref _), some (.ref _), none, none], [.ref _], _)) rfl (u_ rfl) ?_
      refine w_t (pc := 11) (e_s := (3, 1, 1, 0, 0, .null, [])) (y_s := (12, [some (.ref _), some (.ref _), some (.ref _), none, none], [.ref _, .ref _], _)) rfl (u_ rfl) ?_
      refine w_t (pc := 12) (e_s := (3, 1, 2, 0, 0, .null, [])) (y_s := (13, [some (.ref _), some (.ref _), some (.ref _), none, none], [.ref _, .ref _, .ref _], _)) rfl (u_ rfl) ?_
      refine wcI (pc := 13) (len_s := 3) rfl rfl (l := [some (.ref _), some (.ref _), some (.ref _)]) rfl (wmI t_s (fun v3 h3 hk t_s => ?_))
      replace t_s := t_s hk
      refine w_t (pc := 16) (e_s := (4, 1, 3, 0, 0, .null, [])) (y_s := (17, [some (.ref _), some (.ref _), some (.ref _), some (.int _), none], [], _)) rfl (u_ rfl) ?_
      refine w_t (pc := 17) (e_s := (0, 1, 0, 0, 0, .int 1, [])) (y_s := (18, [some (.ref _), some (.ref _), some (.ref _), some (.int _), none], [.int _], _)) rfl (u_ rfl) ?_
      refine w_t (pc := 18) (e_s := (4, 2, 4, 0, 0, .null, [])) (y_s := (20, [some (.ref _), some (.ref _), some (.ref _), some (.int _), some (.int _)], [], _)) rfl (u_ rfl) ?_
      exact t_s
  · replace t_s := t_s.2 c1_s
    refine w_t (pc := 9) (e_s := (0, 1, 0, 0, 0, .int 1, [])) (y_s := (10, [some (.ref _)], [.int _], _)) rfl (u_ rfl) ?_
    refine w_t (pc := 10) (e_s := (17, 3, 14, 0, 0, .null, [])) (y_s := (14, [some (.ref _)], [.int _], _)) rfl (u_ rfl) ?_
    refine wrI (pc := 14) (len_s := 1) rfl hk ?_
    show wF _ 40 (4, [some (.ref _), some (.ref _)], [.int _], _) _
    refine w_t (pc := 4) (e_s := (15, 3, 19, 1, 0, .null, [])) (y_s := (19, [some (.ref _), some (.ref _)], [], _)) rfl (u_ rfl) ?_
    refine w_t (pc := 19) (e_s := (0, 1, 0, 0, 0, .int 0, [])) (y_s := (20, [some (.ref _), some (.ref _)], [.int _], _)) rfl (u_ rfl) ?_
    refine wrI (pc := 20) (len_s := 1) rfl hk ?_
    show wF _ 24 (5, [some (.ref _), some (.ref _), some (.ref _), none, none], [.int _], _) _
    refine w_t (pc := 5) (e_s := (15, 3, 10, 1, 0, .null, [])) (y_s := (8, [some (.ref _), some (.ref _), some (.ref _), none, none], [], _)) rfl (u_ rfl) ?_
    refine w_t (pc := 8) (e_s := (0, 1, 0, 0, 0, .int 0, [])) (y_s := (9, [some (.ref _), some (.ref _), some (.ref _), none, none], [.int _], _)) rfl (u_ rfl) ?_
    exact wrI (pc := 9) (len_s := 1) rfl hk t_s
/-- ColdShod$Country.travel(LColdShod$Idea;LColdShod$Road;)I, from 20 on -/
theorem sg_24_20 {F_s : Nat} {d_s ro : Nat} {x3 x4_s : Int32} {h_s : zH} {K_s : Int32 → zH → Prop} (hk : hKn h_s) (t_s : ((h_s.2.1 ro 2).toInt < x4_s.toInt → K_s ((zup h_s.2.1 d_s 3 (if 0 < ((h_s.2.1 d_s 3) - 1) then ((h_s.2.1 d_s 3) - 1) else 0)) ro 2) (h_s.1, zup h_s.2.1 d_s 3 (if 0 < ((h_s.2.1 d_s 3) - 1) then ((h_s.2.1 d_s 3) - 1) else 0), h_s.2.2.1, h_s.2.2.2)) ∧ (¬ (h_s.2.1 ro 2).toInt < x4_s.toInt → ((((zup h_s.2.1 d_s 2 (if ((h_s.2.1 d_s 2) + x3) < 99 then ((h_s.2.1 d_s 2) + x3) else 99)) d_s 2).toInt < 99 → (∀ q3_s, h_s.2.2.2 7 9 = some q3_s → q3_s = 14 ∨ q3_s = 17 → (((zup h_s.2.1 d_s 2 (if ((h_s.2.1 d_s 2) + x3) < 99 then ((h_s.2.1 d_s 2) + x3) else 99)) q3_s 0).toInt = 0 → wF F_s 24 (20, [some (.ref 7), some (.ref d_s), some (.ref ro), some (.int x3), some (.int (x4_s + 1))], [], (h_s.1, zup h_s.2.1 d_s 2 (if ((h_s.2.1 d_s 2) + x3) < 99 then ((h_s.2.1 d_s 2) + x3) else 99), h_s.2.2.1, h_s.2.2.2)) (gI K_s)) ∧ (¬ ((zup h_s.2.1 d_s 2 (if ((h_s.2.1 d_s 2) + x3) < 99 then ((h_s.2.1 d_s 2) + x3) else 99)) q3_s 0).toInt = 0 → ((0 < x3.toInt → ((x4_s.toInt < ((zup h_s.2.1 d_s 2 (if ((h_s.2.1 d_s 2) + x3) < 99 then ((h_s.2.1 d_s 2) + x3) else 99)) ro 2).toInt → wF F_s 23 (0, [some (.ref 7), some (.ref d_s), some (.ref ro)], [], (h_s.1, zup h_s.2.1 d_s 2 (if ((h_s.2.1 d_s 2) + x3) < 99 then ((h_s.2.1 d_s 2) + x3) else 99), h_s.2.2.1, h_s.2.2.2)) (gI (fun v7 h7 => hKn h7 → wF F_s 24 (20, [some (.ref 7), some (.ref d_s), some (.ref ro), some (.int v7), some (.int (x4_s + 1))], [], h7) (gI K_s)))) ∧ (¬ x4_s.toInt < ((zup h_s.2.1 d_s 2 (if ((h_s.2.1 d_s 2) + x3) < 99 then ((h_s.2.1 d_s 2) + x3) else 99)) ro 2).toInt → wF F_s 24 (20, [some (.ref 7), some (.ref d_s), some (.ref ro), some (.int x3), some (.int (x4_s + 1))], [], (h_s.1, zup h_s.2.1 d_s 2 (if ((h_s.2.1 d_s 2) + x3) < 99 then ((h_s.2.1 d_s 2) + x3) else 99), h_s.2.2.1, h_s.2.2.2)) (gI K_s)))) ∧ (¬ 0 < x3.toInt → wF F_s 24 (20, [some (.ref 7), some (.ref d_s), some (.ref ro), some (.int x3), some (.int (x4_s + 1))], [], (h_s.1, zup h_s.2.1 d_s 2 (if ((h_s.2.1 d_s 2) + x3) < 99 then ((h_s.2.1 d_s 2) + x3) else 99), h_s.2.2.1, h_s.2.2.2)) (gI K_s)))))) ∧ (¬ ((zup h_s.2.1 d_s 2 (if ((h_s.2.1 d_s 2) + x3) < 99 then ((h_s.2.1 d_s 2) + x3) else 99)) d_s 2).toInt < 99 → ((x4_s.toInt < ((zup h_s.2.1 d_s 2 (if ((h_s.2.1 d_s 2) + x3) < 99 then ((h_s.2.1 d_s 2) + x3) else 99)) ro 2).toInt → K_s x4_s (h_s.1, zup h_s.2.1 d_s 2 (if ((h_s.2.1 d_s 2) + x3) < 99 then ((h_s.2.1 d_s 2) + x3) else 99), h_s.2.2.1, h_s.2.2.2)) ∧ (¬ x4_s.toInt < ((zup h_s.2.1 d_s 2 (if ((h_s.2.1 d_s 2) + x3) < 99 then ((h_s.2.1 d_s 2) + x3) else 99)) ro 2).toInt → (∀ q9_s, h_s.2.2.2 7 9 = some q9_s → q9_s = 14 ∨ q9_s = 17 → (((zup h_s.2.1 d_s 2 (if ((h_s.2.1 d_s 2) + x3) < 99 then ((h_s.2.1 d_s 2) + x3) else 99)) q9_s 0).toInt = 0 → wF F_s 24 (20, [some (.ref 7), some (.ref d_s), some (.ref ro), some (.int x3), some (.int (x4_s + 1))], [], (h_s.1, zup h_s.2.1 d_s 2 (if ((h_s.2.1 d_s 2) + x3) < 99 then ((h_s.2.1 d_s 2) + x3) else 99), h_s.2.2.1, h_s.2.2.2)) (gI K_s)) ∧ (¬ ((zup h_s.2.1 d_s 2 (if ((h_s.2.1 d_s 2) + x3) < 99 then ((h_s.2.1 d_s 2) + x3) else 99)) q9_s 0).toInt = 0 → ((0 < x3.toInt → wF F_s 24 (20, [some (.ref 7), some (.ref d_s), some (.ref ro), some (.int x3), some (.int (x4_s + 1))], [], (h_s.1, zup h_s.2.1 d_s 2 (if ((h_s.2.1 d_s 2) + x3) < 99 then ((h_s.2.1 d_s 2) + x3) else 99), h_s.2.2.1, h_s.2.2.2)) (gI K_s)) ∧ (¬ 0 < x3.toInt → wF F_s 24 (20, [some (.ref 7), some (.ref d_s), some (.ref ro), some (.int x3), some (.int (x4_s + 1))], [], (h_s.1, zup h_s.2.1 d_s 2 (if ((h_s.2.1 d_s 2) + x3) < 99 then ((h_s.2.1 d_s 2) + x3) else 99), h_s.2.2.1, h_s.2.2.2)) (gI K_s))))))))))) : wF (F_s + 1) 24 (20, [some (.ref 7), some (.ref d_s), some (.ref ro), some (.int x3), some (.int x4_s)], [], h_s) (gI K_s) := by
  refine w_0 (pc := 20) (e_s := (1, 2, 4, 0, 0, .null, [])) (y_s := (22, [some (.ref _), some (.ref _), some (.ref _), some (.int _), some (.int _)], [.int _], _)) rfl (u_ rfl) ?_
  refine w_t (pc := 22) (e_s := (3, 1, 2, 0, 0, .null, [])) (y_s := (23, [some (.ref _), some (.ref _), some (.ref _), some (.int _), some (.int _)], [.ref _, .int _], _)) rfl (u_ rfl) ?_
  refine w20 (pc := 23) (len_s := 3) rfl ?_
  refine wi4 (pc := 26) (len_s := 3) rfl rfl rfl (fun c1_s => ?_) (fun c1_s => ?_)
  · replace t_s := t_s.1 c1_s
    refine w_t (pc := 89) (e_s := (3, 1, 1, 0, 0, .null, [])) (y_s := (90, [some (.ref _), some (.ref _), some (.ref _), some (.int _), some (.int _)], [.ref _], _)) rfl (u_ rfl) ?_
    refine w_t (pc := 90) (e_s := (0, 1, 0, 0, 0, .int 1, [])) (y_s := (91, [some (.ref _), some (.ref _), some (.ref _), some (.int _), some (.int _)], [.int _, .ref _], _)) rfl (u_ rfl) ?_
    refine wcV (pc := 91) (len_s := 3) rfl rfl (l := [some (.ref _), some (.int _)]) rfl ?_
    refine w_t (pc := 0) (e_s := (3, 1, 0, 0, 0, .null, [])) (y_s := (1, [some (.ref _), some (.int _)], [.ref _], _)) rfl (u_ rfl) ?_
    refine w_t (pc := 1) (e_s := (0, 1, 0, 0, 0, .int 0, [])) (y_s := (2, [some (.ref _), some (.int _)], [.int _, .ref _], _)) rfl (u_ rfl) ?_
    refine w_t (pc := 2) (e_s := (3, 1, 0, 0, 0, .null, [])) (y_s := (3, [some (.ref _), some (.int _)], [.ref _, .int _, .ref _], _)) rfl (u_ rfl) ?_
    refine w20 (pc := 3) (len_s := 3) rfl ?_
    refine w_t (pc := 6) (e_s := (1, 1, 1, 0, 0, .null, [])) (y_s := (7, [some (.ref _), some (.int _)], [.int _, .int _, .int _, .ref _], _)) rfl (u_ rfl) ?_
    refine w_t (pc := 7) (e_s := (7, 1, 0, 1, 0, .null, [])) (y_s := (8, [some (.ref _), some (.int _)], [.int (_ - _), .int _, .ref _], _)) rfl (u_ rfl) ?_
    refine w_t (pc := 8) (e_s := (31, 3, 0, 0, 0, .null, [(0, 812), (0, 783), (0, 784), (0, 777)])) (y_s := (11, [some (.ref _), some (.int _)], [.int _, .ref _], _)) rfl (u_ rfl) ?_
    refine w21 (pc := 11) (len_s := 3) rfl ?_
    refine wrV (pc := 14) (len_s := 1) rfl hk ?_
    show wF _ 24 (94, [some (.ref _), some (.ref _), some (.ref _), some (.int _), some (.int _)], [], _) _
    refine w_t (pc := 94) (e_s := (3, 1, 2, 0, 0, .null, [])) (y_s := (95, [some (.ref _), some (.ref _), some (.ref _), some (.int _), some (.int _)], [.ref _], _)) rfl (u_ rfl) ?_
    refine w20 (pc := 95) (len_s := 3) rfl ?_
    exact wrI (pc := 98) (len_s := 1) rfl hk t_s
  · replace t_s := t_s.2 c1_s
    refine w_t (pc := 29) (e_s := (3, 1, 1, 0, 0, .null, [])) (y_s := (30, [some (.ref _), some (.ref _), some (.ref _), some (.int _), some (.int _)], [.ref _], _)) rfl (u_ rfl) ?_
    refine w_t (pc := 30) (e_s := (1, 1, 3, 0, 0, .null, [])) (y_s := (31, [some (.ref _), some (.ref _), some (.ref _), some (.int _), some (.int _)], [.int _, .ref _], _)) rfl (u_ rfl) ?_
    refine wcV (pc := 31) (len_s := 3) rfl rfl (l := [some (.ref _), some (.int _)]) rfl ?_
    refine w_t (pc := 0) (e_s := (3, 1, 0, 0, 0, .null, [])) (y_s := (1, [some (.ref _), some (.int _)], [.ref _], _)) rfl (u_ rfl) ?_
    refine w_t (pc := 1) (e_s := (0, 2, 0, 0, 0, .int 99, [])) (y_s := (3, [some (.ref _), some (.int _)], [.int _, .ref _], _)) rfl (u_ rfl) ?_
    refine w_t (pc := 3) (e_s := (3, 1, 0, 0, 0, .null, [])) (y_s := (4, [some (.ref _), some (.int _)], [.ref _, .int _, .ref _], _)) rfl (u_ rfl) ?_
    refine w20 (pc := 4) (len_s := 3) rfl ?_
    refine w_t (pc := 7) (e_s := (1, 1, 1, 0, 0, .null, [])) (y_s := (8, [some (.ref _), some (.int _)], [.int _, .int _, .int _, .ref _], _)) rfl (u_ rfl) ?_
    refine w_t (pc := 8) (e_s := (7, 1, 0, 0, 0, .null, [])) (y_s := (9, [some (.ref _), some (.int _)], [.int (_ + _), .int _, .ref _], _)) rfl (u_ rfl) ?_
    refine w_t (pc := 9) (e_s := (31, 3, 0, 1, 0, .null, [(0, 811), (0, 780), (0, 781), (0, 777)])) (y_s := (12, [some (.ref _), some (.int _)], [.int _, .ref _], _)) rfl (u_ rfl) ?_
    refine w21 (pc := 12) (len_s := 3) rfl ?_
    refine wrV (pc := 15) (len_s := 1) rfl hk ?_
    show wF _ 24 (34, [some (.ref _), some (.ref _), some (.ref _), some (.int _), some (.int _)], [], _) _
    refine w_t (pc := 34) (e_s := (3, 1, 1, 0, 0, .null, [])) (y_s := (35, [some (.ref _), some (.ref _), some (.ref _), some (.int _), some (.int _)], [.ref _], _)) rfl (u_ rfl) ?_
    refine wcI (pc := 35) (len_s := 3) rfl rfl (l := [some (.ref _)]) rfl ?_
    refine w_t (pc := 0) (e_s := (3, 1, 0, 0, 0, .null, [])) (y_s := (1, [some (.ref _)], [.ref _], _)) rfl (u_ rfl) ?_
    refine w20 (pc := 1) (len_s := 3) rfl ?_
    refine w_t (pc := 4) (e_s := (0, 2, 0, 0, 0, .int 99, [])) (y_s := (6, [some (.ref _)], [.int _, .int _], _)) rfl (u_ rfl) ?_
    refine wi2 (pc := 6) (len_s := 3) (Y := 99) rfl rfl (by decide) (fun c2_s => ?_) (fun c2_s => ?_)
    · replace t_s := t_s.1 c2_s
      refine w_t (pc := 13) (e_s := (0, 1, 0, 0, 0, .int 0, [])) (y_s := (14, [some (.ref _)], [.int _], _)) rfl (u_ rfl) ?_
      refine wrI (pc := 14) (len_s := 1) rfl hk ?_
      show wF _ 24 (38, [some (.ref _), some (.ref _), some (.ref _), some (.int _), some (.int _)], [.int _], _) _
      refine w_t (pc := 38) (e_s := (15, 3, 53, 0, 0, .null, [])) (y_s := (53, [some (.ref _), some (.ref _), some (.ref _), some (.int _), some (.int _)], [], _)) rfl (u_ rfl) ?_
      refine w_t (pc := 53) (e_s := (3, 1, 0, 0, 0, .null, [])) (y_s := (54, [some (.ref _), some (.ref _), some (.ref _), some (.int _), some (.int _)], [.ref _], _)) rfl (u_ rfl) ?_
      obtain ⟨q3_s, r3, m3_s⟩ := krm hk (o := 7) (b_s := 9) rfl
      replace t_s := t_s q3_s r3 m3_s
      refine w20r (pc := 54) (len_s := 3) (q_s := q3_s) rfl r3 ?_
      refine w20 (pc := 57) (len_s := 3) rfl ?_
      refine wq0 (pc := 60) (len_s := 3) rfl rfl (fun c4_s => ?_) (fun c4_s => ?_)
      · replace t_s := t_s.1 c4_s
        refine w_t (pc := 83) (e_s := (19, 3, 4, 0, 0, .int 1, [])) (y_s := (86, [some (.ref _), some (.ref _), some (.ref _), some (.int _), some (.int _)], [], _)) rfl (u_ rfl) ?_
        refine w_t (pc := 86) (e_s := (17, 3, 20, 0, 0, .null, [])) (y_s := (20, [some (.ref _), some (.ref _), some (.ref _), some (.int _), some (.int _)], [], _)) rfl (u_ rfl) ?_
        exact t_s
      · replace t_s := t_s.2 c4_s
        refine w_t (pc := 63) (e_s := (1, 1, 3, 0, 0, .null, [])) (y_s := (64, [some (.ref _), some (.ref _), some (.ref _), some (.int _), some (.int _)], [.int _], _)) rfl (u_ rfl) ?_
        refine wq5 (pc := 64) (len_s := 3) rfl rfl (fun c5_s => ?_) (fun c5_s => ?_)
        · replace t_s := t_s.1 c5_s
          refine w_t (pc := 67) (e_s := (1, 2, 4, 0, 0, .null, [])) (y_s := (69, [some (.ref _), some (.ref _), some (.ref _), some (.int _), some (.int _)], [.int _], _)) rfl (u_ rfl) ?_
          refine w_t (pc := 69) (e_s := (3, 1, 2, 0, 0, .null, [])) (y_s := (70, [some (.ref _), some (.ref _), some (.ref _), some (.int _), some (.int _)], [.ref _, .int _], _)) rfl (u_ rfl) ?_
          refine w20 (pc := 70) (len_s := 3) rfl ?_
          refine wi3 (pc := 73) (len_s := 3) rfl rfl rfl (fun c6_s => ?_) (fun c6_s => ?_)
          · replace t_s := t_s.1 c6_s
            refine w_t (pc := 76) (e_s := (3, 1, 0, 0, 0, .null, [])) (y_s := (77, [some (.ref _), some (.ref _), some (.ref _), some (.int _), some (.int _)], [.ref _], _)) rfl (u_ rfl) ?_
            refine w_t (pc := 77) (e_s := (3, 1, 1, 0, 0, .null, [])) (y_s := (78, [some (.ref _), some (.ref _), some (.ref _), some (.int _), some (.int _)], [.ref _, .ref _], _)) rfl (u_ rfl) ?_
            refine w_t (pc := 78) (e_s := (3, 1, 2, 0, 0, .null, [])) (y_s := (79, [some (.ref _), some (.ref _), some (.ref _), some (.int _), some (.int _)], [.ref _, .ref _, .ref _], _)) rfl (u_ rfl) ?_
            refine wcI (pc := 79) (len_s := 3) rfl rfl (l := [some (.ref _), some (.ref _), some (.ref _)]) rfl (wmI t_s (fun v7 h7 hk t_s => ?_))
            replace t_s := t_s hk
            refine w_t (pc := 82) (e_s := (4, 1, 3, 0, 0, .null, [])) (y_s := (83, [some (.ref _), some (.ref _), some (.ref _), some (.int _), some (.int _)], [], _)) rfl (u_ rfl) ?_
            refine w_t (pc := 83) (e_s := (19, 3, 4, 0, 0, .int 1, [])) (y_s := (86, [some (.ref _), some (.ref _), some (.ref _), some (.int _), some (.int _)], [], _)) rfl (u_ rfl) ?_
            refine w_t (pc := 86) (e_s := (17, 3, 20, 0, 0, .null, [])) (y_s := (20, [some (.ref _), some (.ref _), some (.ref _), some (.int _), some (.int _)], [], _)) rfl (u_ rfl) ?_
            exact t_s
          · replace t_s := t_s.2 c6_s
            refine w_t (pc := 83) (e_s := (19, 3, 4, 0, 0, .int 1, [])) (y_s := (86, [some (.ref _), some (.ref _), some (.ref _), some (.int _), some (.int _)], [], _)) rfl (u_ rfl) ?_
            refine w_t (pc := 86) (e_s := (17, 3, 20, 0, 0, .null, [])) (y_s := (20, [some (.ref _), some (.ref _), some (.ref _), some (.int _), some (.int _)], [], _)) rfl (u_ rfl) ?_
            exact t_s
        · replace t_s := t_s.2 c5_s
          refine w_t (pc := 83) (e_s := (19, 3, 4, 0, 0, .int 1, [])) (y_s := (86, [some (.ref _), some (.ref _), some (.ref _), some (.int _), some (.int _)], [], _)) rfl (u_ rfl) ?_
          refine w_t (pc := 86) (e_s := (17, 3, 20, 0, 0, .null, [])) (y_s := (20, [some (.ref _), some (.ref _), some (.ref _), some (.int _), some (.int _)], [], _)) rfl (u_ rfl) ?_
          exact t_s
    · replace t_s := t_s.2 c2_s
      refine w_t (pc := 9) (e_s := (0, 1, 0, 0, 0, .int 1, [])) (y_s := (10, [some (.ref _)], [.int _], _)) rfl (u_ rfl) ?_
      refine w_t (pc := 10) (e_s := (17, 3, 14, 0, 0, .null, [])) (y_s := (14, [some (.ref _)], [.int _], _)) rfl (u_ rfl) ?_
      refine wrI (pc := 14) (len_s := 1) rfl hk ?_
      show wF _ 24 (38, [some (.ref _), some (.ref _), some (.ref _), some (.int _), some (.int _)], [.int _], _) _
      refine w_t (pc := 38) (e_s := (15, 3, 53, 0, 0, .null, [])) (y_s := (41, [some (.ref _), some (.ref _), some (.ref _), some (.int _), some (.int _)], [], _)) rfl (u_ rfl) ?_
      refine w_t (pc := 41) (e_s := (1, 2, 4, 0, 0, .null, [])) (y_s := (43, [some (.ref _), some (.ref _), some (.ref _), some (.int _), some (.int _)], [.int _], _)) rfl (u_ rfl) ?_
      refine w_t (pc := 43) (e_s := (3, 1, 2, 0, 0, .null, [])) (y_s := (44, [some (.ref _), some (.ref _), some (.ref _), some (.int _), some (.int _)], [.ref _, .int _], _)) rfl (u_ rfl) ?_
      refine w20 (pc := 44) (len_s := 3) rfl ?_
      refine wi3 (pc := 47) (len_s := 3) rfl rfl rfl (fun c8_s => ?_) (fun c8_s => ?_)
      · replace t_s := t_s.1 c8_s
        refine w_t (pc := 50) (e_s := (1, 2, 4, 0, 0, .null, [])) (y_s := (52, [some (.ref _), some (.ref _), some (.ref _), some (.int _), some (.int _)], [.int _], _)) rfl (u_ rfl) ?_
        exact wrI (pc := 52) (len_s := 1) rfl hk t_s
      · replace t_s := t_s.2 c8_s
        refine w_t (pc := 53) (e_s := (3, 1, 0, 0, 0, .null, [])) (y_s := (54, [some (.ref _), some (.ref _), some (.ref _), some (.int _), some (.int _)], [.ref _], _)) rfl (u_ rfl) ?_
        obtain ⟨q9_s, r9, m9_s⟩ := krm hk (o := 7) (b_s := 9) rfl
        replace t_s := t_s q9_s r9 m9_s
        refine w20r (pc := 54) (len_s := 3) (q_s := q9_s) rfl r9 ?_
        refine w20 (pc := 57) (len_s := 3) rfl ?_
        refine wq0 (pc := 60) (len_s := 3) rfl rfl (fun c10_s => ?_) (fun c10_s => ?_)
        · replace t_s := t_s.1 c10_s
          refine w_t (pc := 83) (e_s := (19, 3, 4, 0, 0, .int 1, [])) (y_s := (86, [some (.ref _), some (.ref _), some (.ref _), some (.int _), some (.int _)], [], _)) rfl (u_ rfl) ?_
          refine w_t (pc := 86) (e_s := (17, 3, 20, 0, 0, .null, [])) (y_s := (20, [some (.ref _), some (.ref _), some (.ref _), some (.int _), some (.int _)], [], _)) rfl (u_ rfl) ?_
          exact t_s
        · replace t_s := t_s.2 c10_s
          refine w_t (pc := 63) (e_s := (1, 1, 3, 0, 0, .null, [])) (y_s := (64, [some (.ref _), some (.ref _), some (.ref _), some (.int _), some (.int _)], [.int _], _)) rfl (u_ rfl) ?_
          refine wq5 (pc := 64) (len_s := 3) rfl rfl (fun c11_s => ?_) (fun c11_s => ?_)
          · replace t_s := t_s.1 c11_s
            refine w_t (pc := 67) (e_s := (1, 2, 4, 0, 0, .null, [])) (y_s := (69, [some (.ref _), some (.ref _), some (.ref _), some (.int _), some (.int _)], [.int _], _)) rfl (u_ rfl) ?_
            refine w_t (pc := 69) (e_s := (3, 1, 2, 0, 0, .null, [])) (y_s := (70, [some (.ref _), some (.ref _), some (.ref _), some (.int _), some (.int _)], [.ref _, .int _], _)) rfl (u_ rfl) ?_
            refine w20 (pc := 70) (len_s := 3) rfl ?_
            refine wi3 (pc := 73) (len_s := 3) rfl rfl rfl (fun c12_s => ?_) (fun c12_s => ?_)
            · exact absurd c12_s c8_s
            · skip
              refine w_t (pc := 83) (e_s := (19, 3, 4, 0, 0, .int 1, [])) (y_s := (86, [some (.ref _), some (.ref _), some (.ref _), some (.int _), some (.int _)], [], _)) rfl (u_ rfl) ?_
              refine w_t (pc := 86) (e_s := (17, 3, 20, 0, 0, .null, [])) (y_s := (20, [some (.ref _), some (.ref _), some (.ref _), some (.int _), some (.int _)], [], _)) rfl (u_ rfl) ?_
              exact t_s
          · replace t_s := t_s.2 c11_s
            refine w_t (pc := 83) (e_s := (19, 3, 4, 0, 0, .int 1, [])) (y_s := (86, [some (.ref _), some (.ref _), some (.ref _), some (.int _), some (.int _)], [], _)) rfl (u_ rfl) ?_
            refine w_t (pc := 86) (e_s := (17, 3, 20, 0, 0, .null, [])) (y_s := (20, [some (.ref _), some (.ref _), some (.ref _), some (.int _), some (.int _)], [], _)) rfl (u_ rfl) ?_
            exact t_s
/-- ColdShodModel.begins(I)V, from 0 on -/
theorem sg_178_0 {F_s : Nat} {x1_s : Int32} {h_s : zH} {K_s : zH → Prop} (hk : hKn h_s) (t_s : wF F_s 178 (2, [some (.ref 102), some (.int x1_s), some (.int 0)], [], h_s) (gV K_s)) : wF (F_s + 1) 178 (0, [some (.ref 102), some (.int x1_s), none], [], h_s) (gV K_s) := by
  refine w_0 (pc := 0) (e_s := (0, 1, 0, 0, 0, .int 0, [])) (y_s := (1, [some (.ref _), some (.int _), none], [.int _], _)) rfl (u_ rfl) ?_
  refine w_t (pc := 1) (e_s := (4, 1, 2, 0, 0, .null, [])) (y_s := (2, [some (.ref _), some (.int _), some (.int _)], [], _)) rfl (u_ rfl) ?_
  exact t_s
/-- ColdShodModel.begins(I)V, from 2 on -/
theorem sg_178_2 {F_s : Nat} {x1_s x2_s : Int32} {h_s : zH} {K_s : zH → Prop} (hk : hKn h_s) (t_s : (x2_s.toInt < 6 → (zix ((12 + (8 * x2_s)) + x1_s) < 104 → (zix x2_s < 7 → wF F_s 178 (2, [some (.ref 102), some (.int x1_s), some (.int (x2_s + 1))], [], (h_s.1, zup h_s.2.1 112 (zix x2_s) (h_s.2.1 103 (zix ((12 + (8 * x2_s)) + x1_s))), h_s.2.2.1, h_s.2.2.2)) (gV K_s)))) ∧ (¬ x2_s.toInt < 6 → (zix (60 + x1_s) < 104 → ((h_s.2.1 103 (zix (60 + x1_s))).toInt < 0 → K_s (h_s.1, zup h_s.2.1 112 6 (-1), h_s.2.2.1, h_s.2.2.2)) ∧ (¬ (h_s.2.1 103 (zix (60 + x1_s))).toInt < 0 → (zix (h_s.2.1 103 (zix (60 + x1_s))) < 104 → K_s (h_s.1, zup h_s.2.1 112 6 (h_s.2.1 103 (zix (h_s.2.1 103 (zix (60 + x1_s))))), h_s.2.2.1, h_s.2.2.2)))))) : wF (F_s + 1) 178 (2, [some (.ref 102), some (.int x1_s), some (.int x2_s)], [], h_s) (gV K_s) := by
  refine w_0 (pc := 2) (e_s := (1, 1, 2, 0, 0, .null, [])) (y_s := (3, [some (.ref _), some (.int _), some (.int _)], [.int _], _)) rfl (u_ rfl) ?_
  refine w_t (pc := 3) (e_s := (0, 2, 0, 0, 0, .int 6, [])) (y_s := (5, [some (.ref _), some (.int _), some (.int _)], [.int _, .int _], _)) rfl (u_ rfl) ?_
  refine wi3 (pc := 5) (len_s := 3) (Y := 6) rfl rfl (by decide) (fun c1_s => ?_) (fun c1_s => ?_)
  · replace t_s := t_s.1 c1_s
    refine w_t (pc := 8) (e_s := (3, 1, 0, 0, 0, .null, [])) (y_s := (9, [some (.ref _), some (.int _), some (.int _)], [.ref _], _)) rfl (u_ rfl) ?_
    refine w20r (pc := 9) (len_s := 3) (q_s := 112) rfl (krq hk rfl) ?_
    refine w_t (pc := 12) (e_s := (1, 1, 2, 0, 0, .null, [])) (y_s := (13, [some (.ref _), some (.int _), some (.int _)], [.int _, .ref _], _)) rfl (u_ rfl) ?_
    refine w_t (pc := 13) (e_s := (3, 1, 0, 0, 0, .null, [])) (y_s := (14, [some (.ref _), some (.int _), some (.int _)], [.ref _, .int _, .ref _], _)) rfl (u_ rfl) ?_
    refine w20r (pc := 14) (len_s := 3) (q_s := 103) rfl (krq hk rfl) ?_
    refine w_t (pc := 17) (e_s := (0, 2, 0, 0, 0, .int 12, [])) (y_s := (19, [some (.ref _), some (.int _), some (.int _)], [.int _, .ref _, .int _, .ref _], _)) rfl (u_ rfl) ?_
    refine w_t (pc := 19) (e_s := (0, 2, 0, 0, 0, .int 8, [])) (y_s := (21, [some (.ref _), some (.int _), some (.int _)], [.int _, .int _, .ref _, .int _, .ref _], _)) rfl (u_ rfl) ?_
    refine w_t (pc := 21) (e_s := (1, 1, 2, 0, 0, .null, [])) (y_s := (22, [some (.ref _), some (.int _), some (.int _)], [.int _, .int _, .int _, .ref _, .int _, .ref _], _)) rfl (u_ rfl) ?_
    refine w_t (pc := 22) (e_s := (7, 1, 0, 2, 0, .null, [])) (y_s := (23, [some (.ref _), some (.int _), some (.int _)], [.int (_ * _), .int _, .ref _, .int _, .ref _], _)) rfl (u_ rfl) ?_
    refine w_t (pc := 23) (e_s := (7, 1, 0, 0, 0, .null, [])) (y_s := (24, [some (.ref _), some (.int _), some (.int _)], [.int (_ + _), .ref _, .int _, .ref _], _)) rfl (u_ rfl) ?_
    refine w_t (pc := 24) (e_s := (1, 1, 1, 0, 0, .null, [])) (y_s := (25, [some (.ref _), some (.int _), some (.int _)], [.int _, .int _, .ref _, .int _, .ref _], _)) rfl (u_ rfl) ?_
    refine w_t (pc := 25) (e_s := (7, 1, 0, 0, 0, .null, [])) (y_s := (26, [some (.ref _), some (.int _), some (.int _)], [.int (_ + _), .ref _, .int _, .ref _], _)) rfl (u_ rfl) ?_
    refine w22 (pc := 26) (len_s := 1) rfl (hk.1 103 0 104 rfl rfl) (fun c2_s => ?_)
    replace t_s := t_s c2_s
    refine w25 (pc := 27) (len_s := 1) rfl (hk.1 112 0 7 rfl rfl) (fun c3_s => ?_)
    replace t_s := t_s c3_s
    refine w_t (pc := 28) (e_s := (19, 3, 2, 0, 0, .int 1, [])) (y_s := (31, [some (.ref _), some (.int _), some (.int _)], [], _)) rfl (u_ rfl) ?_
    refine w_t (pc := 31) (e_s := (17, 3, 2, 0, 0, .null, [])) (y_s := (2, [some (.ref _), some (.int _), some (.int _)], [], _)) rfl (u_ rfl) ?_
    exact t_s
  · replace t_s := t_s.2 c1_s
    refine w_t (pc := 34) (e_s := (3, 1, 0, 0, 0, .null, [])) (y_s := (35, [some (.ref _), some (.int _), some (.int _)], [.ref _], _)) rfl (u_ rfl) ?_
    refine w20r (pc := 35) (len_s := 3) (q_s := 112) rfl (krq hk rfl) ?_
    refine w_t (pc := 38) (e_s := (0, 2, 0, 0, 0, .int 6, [])) (y_s := (40, [some (.ref _), some (.int _), some (.int _)], [.int _, .ref _], _)) rfl (u_ rfl) ?_
    refine w_t (pc := 40) (e_s := (3, 1, 0, 0, 0, .null, [])) (y_s := (41, [some (.ref _), some (.int _), some (.int _)], [.ref _, .int _, .ref _], _)) rfl (u_ rfl) ?_
    refine w20r (pc := 41) (len_s := 3) (q_s := 103) rfl (krq hk rfl) ?_
    refine w_t (pc := 44) (e_s := (0, 2, 0, 0, 0, .int 60, [])) (y_s := (46, [some (.ref _), some (.int _), some (.int _)], [.int _, .ref _, .int _, .ref _], _)) rfl (u_ rfl) ?_
    refine w_t (pc := 46) (e_s := (1, 1, 1, 0, 0, .null, [])) (y_s := (47, [some (.ref _), some (.int _), some (.int _)], [.int _, .int _, .ref _, .int _, .ref _], _)) rfl (u_ rfl) ?_
    refine w_t (pc := 47) (e_s := (7, 1, 0, 0, 0, .null, [])) (y_s := (48, [some (.ref _), some (.int _), some (.int _)], [.int (_ + _), .ref _, .int _, .ref _], _)) rfl (u_ rfl) ?_
    refine w22 (pc := 48) (len_s := 1) rfl (hk.1 103 0 104 rfl rfl) (fun c4_s => ?_)
    replace t_s := t_s c4_s
    refine wq3 (pc := 49) (len_s := 3) rfl rfl (fun c5_s => ?_) (fun c5_s => ?_)
    · replace t_s := t_s.1 c5_s
      refine w_t (pc := 52) (e_s := (0, 1, 0, 0, 0, .int (-1), [])) (y_s := (53, [some (.ref _), some (.int _), some (.int _)], [.int _, .int _, .ref _], _)) rfl (u_ rfl) ?_
      refine w_t (pc := 53) (e_s := (17, 3, 70, 0, 0, .null, [])) (y_s := (70, [some (.ref _), some (.int _), some (.int _)], [.int _, .int _, .ref _], _)) rfl (u_ rfl) ?_
      refine w25 (pc := 70) (len_s := 1) rfl (hk.1 112 0 7 rfl rfl) (fun c6_s => ?_)
      exact wrV (pc := 71) (len_s := 1) rfl hk t_s
    · replace t_s := t_s.2 c5_s
      refine w_t (pc := 56) (e_s := (3, 1, 0, 0, 0, .null, [])) (y_s := (57, [some (.ref _), some (.int _), some (.int _)], [.ref _, .int _, .ref _], _)) rfl (u_ rfl) ?_
      refine w20r (pc := 57) (len_s := 3) (q_s := 103) rfl (krq hk rfl) ?_
      refine w_t (pc := 60) (e_s := (3, 1, 0, 0, 0, .null, [])) (y_s := (61, [some (.ref _), some (.int _), some (.int _)], [.ref _, .ref _, .int _, .ref _], _)) rfl (u_ rfl) ?_
      refine w20r (pc := 61) (len_s := 3) (q_s := 103) rfl (krq hk rfl) ?_
      refine w_t (pc := 64) (e_s := (0, 2, 0, 0, 0, .int 60, [])) (y_s := (66, [some (.ref _), some (.int _), some (.int _)], [.int _, .ref _, .ref _, .int _, .ref _], _)) rfl (u_ rfl) ?_
      refine w_t (pc := 66) (e_s := (1, 1, 1, 0, 0, .null, [])) (y_s := (67, [some (.ref _), some (.int _), some (.int _)], [.int _, .int _, .ref _, .ref _, .int _, .ref _], _)) rfl (u_ rfl) ?_
      refine w_t (pc := 67) (e_s := (7, 1, 0, 0, 0, .null, [])) (y_s := (68, [some (.ref _), some (.int _), some (.int _)], [.int (_ + _), .ref _, .ref _, .int _, .ref _], _)) rfl (u_ rfl) ?_
      refine w22 (pc := 68) (len_s := 1) rfl (hk.1 103 0 104 rfl rfl) (fun c7_s => ?_)
      refine w22 (pc := 69) (len_s := 1) rfl (hk.1 103 0 104 rfl rfl) (fun c8_s => ?_)
      replace t_s := t_s c8_s
      refine w25 (pc := 70) (len_s := 1) rfl (hk.1 112 0 7 rfl rfl) (fun c9_s => ?_)
      exact wrV (pc := 71) (len_s := 1) rfl hk t_s
/-- ColdShodModel.wearsNow(I)I, from 0 on -/
theorem sg_180_0 {F_s : Nat} {x1_s : Int32} {h_s : zH} {K_s : Int32 → zH → Prop} (hk : hKn h_s) (t_s : ((h_s.2.1 112 6).toInt < 0 → (zix (92 + x1_s) < 104 → ((h_s.2.1 102 14).toInt < 0 → (((((1 + (h_s.2.1 103 (zix (92 + x1_s)))) + (9 / 3)) - ((h_s.2.1 112 0) / 2)).toInt < 0 → K_s 0 h_s) ∧ (¬ (((1 + (h_s.2.1 103 (zix (92 + x1_s)))) + (9 / 3)) - ((h_s.2.1 112 0) / 2)).toInt < 0 → ((9 < (((1 + (h_s.2.1 103 (zix (92 + x1_s)))) + (9 / 3)) - ((h_s.2.1 112 0) / 2)).toInt → K_s 9 h_s) ∧ (¬ 9 < (((1 + (h_s.2.1 103 (zix (92 + x1_s)))) + (9 / 3)) - ((h_s.2.1 112 0) / 2)).toInt → K_s (((1 + (h_s.2.1 103 (zix (92 + x1_s)))) + (9 / 3)) - ((h_s.2.1 112 0) / 2)) h_s))))) ∧ (¬ (h_s.2.1 102 14).toInt < 0 → (zix (80 + x1_s) < 104 → wF F_s 176 (0, [some (.ref 102), some (.int 0), some (.int (h_s.2.1 102 14)), none, none, none, none, none], [], (h_s.1, zup (zup (zup (zup (zup (zup h_s.2.1 111 0 (h_s.2.1 112 0)) 111 1 (h_s.2.1 112 2)) 111 2 (h_s.2.1 112 3)) 111 3 9) 111 4 (h_s.2.1 103 (zix (80 + x1_s)))) 111 5 (h_s.2.1 103 (zix (92 + x1_s))), h_s.2.2.1, h_s.2.2.2)) (gI (fun v19 h19 => hKn h19 → (v19.toInt < 0 → K_s 0 h19) ∧ (¬ v19.toInt < 0 → ((9 < v19.toInt → K_s 9 h19) ∧ (¬ 9 < v19.toInt → K_s v19 h19))))))))) ∧ (¬ (h_s.2.1 112 6).toInt < 0 → ((((h_s.2.1 112 1) - (h_s.2.1 112 6)).toInt < 0 → (zix (92 + x1_s) < 104 → ((h_s.2.1 102 14).toInt < 0 → (((((1 + (h_s.2.1 103 (zix (92 + x1_s)))) + ((-((h_s.2.1 112 1) - (h_s.2.1 112 6))) / 3)) - ((h_s.2.1 112 0) / 2)).toInt < 0 → K_s 0 h_s) ∧ (¬ (((1 + (h_s.2.1 103 (zix (92 + x1_s)))) + ((-((h_s.2.1 112 1) - (h_s.2.1 112 6))) / 3)) - ((h_s.2.1 112 0) / 2)).toInt < 0 → ((9 < (((1 + (h_s.2.1 103 (zix (92 + x1_s)))) + ((-((h_s.2.1 112 1) - (h_s.2.1 112 6))) / 3)) - ((h_s.2.1 112 0) / 2)).toInt → K_s 9 h_s) ∧ (¬ 9 < (((1 + (h_s.2.1 103 (zix (92 + x1_s)))) + ((-((h_s.2.1 112 1) - (h_s.2.1 112 6))) / 3)) - ((h_s.2.1 112 0) / 2)).toInt → K_s (((1 + (h_s.2.1 103 (zix (92 + x1_s)))) + ((-((h_s.2.1 112 1) - (h_s.2.1 112 6))) / 3)) - ((h_s.2.1 112 0) / 2)) h_s))))) ∧ (¬ (h_s.2.1 102 14).toInt < 0 → (zix (80 + x1_s) < 104 → wF F_s 176 (0, [some (.ref 102), some (.int 0), some (.int (h_s.2.1 102 14)), none, none, none, none, none], [], (h_s.1, zup (zup (zup (zup (zup (zup h_s.2.1 111 0 (h_s.2.1 112 0)) 111 1 (h_s.2.1 112 2)) 111 2 (h_s.2.1 112 3)) 111 3 (-((h_s.2.1 112 1) - (h_s.2.1 112 6)))) 111 4 (h_s.2.1 103 (zix (80 + x1_s)))) 111 5 (h_s.2.1 103 (zix (92 + x1_s))), h_s.2.2.1, h_s.2.2.2)) (gI (fun v41 h41 => hKn h41 → (v41.toInt < 0 → K_s 0 h41) ∧ (¬ v41.toInt < 0 → ((9 < v41.toInt → K_s 9 h41) ∧ (¬ 9 < v41.toInt → K_s v41 h41))))))))) ∧ (¬ ((h_s.2.1 112 1) - (h_s.2.1 112 6)).toInt < 0 → (zix (92 + x1_s) < 104 → ((h_s.2.1 102 14).toInt < 0 → (((((1 + (h_s.2.1 103 (zix (92 + x1_s)))) + (((h_s.2.1 112 1) - (h_s.2.1 112 6)) / 3)) - ((h_s.2.1 112 0) / 2)).toInt < 0 → K_s 0 h_s) ∧ (¬ (((1 + (h_s.2.1 103 (zix (92 + x1_s)))) + (((h_s.2.1 112 1) - (h_s.2.1 112 6)) / 3)) - ((h_s.2.1 112 0) / 2)).toInt < 0 → ((9 < (((1 + (h_s.2.1 103 (zix (92 + x1_s)))) + (((h_s.2.1 112 1) - (h_s.2.1 112 6)) / 3)) - ((h_s.2.1 112 0) / 2)).toInt → K_s 9 h_s) ∧ (¬ 9 < (((1 + (h_s.2.1 103 (zix (92 + x1_s)))) + (((h_s.2.1 112 1) - (h_s.2.1 112 6)) / 3)) - ((h_s.2.1 112 0) / 2)).toInt → K_s (((1 + (h_s.2.1 103 (zix (92 + x1_s)))) + (((h_s.2.1 112 1) - (h_s.2.1 112 6)) / 3)) - ((h_s.2.1 112 0) / 2)) h_s))))) ∧ (¬ (h_s.2.1 102 14).toInt < 0 → (zix (80 + x1_s) < 104 → wF F_s 176 (0, [some (.ref 102), some (.int 0), some (.int (h_s.2.1 102 14)), none, none, none, none, none], [], (h_s.1, zup (zup (zup (zup (zup (zup h_s.2.1 111 0 (h_s.2.1 112 0)) 111 1 (h_s.2.1 112 2)) 111 2 (h_s.2.1 112 3)) 111 3 ((h_s.2.1 112 1) - (h_s.2.1 112 6))) 111 4 (h_s.2.1 103 (zix (80 + x1_s)))) 111 5 (h_s.2.1 103 (zix (92 + x1_s))), h_s.2.2.1, h_s.2.2.2)) (gI (fun v60 h60 => hKn h60 → (v60.toInt < 0 → K_s 0 h60) ∧ (¬ v60.toInt < 0 → ((9 < v60.toInt → K_s 9 h60) ∧ (¬ 9 < v60.toInt → K_s v60 h60)))))))))))) : wF (F_s + 1) 180 (0, [some (.ref 102), some (.int x1_s), none, none], [], h_s) (gI K_s) := by
  refine w_0 (pc := 0) (e_s := (3, 1, 0, 0, 0, .null, [])) (y_s := (1, [some (.ref _), some (.int _), none, none], [.ref _], _)) rfl (u_ rfl) ?_
  refine w20r (pc := 1) (len_s := 3) (q_s := 112) rfl (krq hk rfl) ?_
  refine w_t (pc := 4) (e_s := (0, 2, 0, 0, 0, .int 6, [])) (y_s := (6, [some (.ref _), some (.int _), none, none], [.int _, .ref _], _)) rfl (u_ rfl) ?_
  refine w22 (pc := 6) (len_s := 1) rfl (hk.1 112 0 7 rfl rfl) (fun c1_s => ?_)
  refine wq3 (pc := 7) (len_s := 3) rfl rfl (fun c2_s => ?_) (fun c2_s => ?_)
  · replace t_s := t_s.1 c2_s
    refine w_t (pc := 10) (e_s := (0, 2, 0, 0, 0, .int 9, [])) (y_s := (12, [some (.ref _), some (.int _), none, none], [.int _], _)) rfl (u_ rfl) ?_
    refine w_t (pc := 12) (e_s := (17, 3, 32, 0, 0, .null, [])) (y_s := (32, [some (.ref _), some (.int _), none, none], [.int _], _)) rfl (u_ rfl) ?_
    refine w_t (pc := 32) (e_s := (4, 1, 2, 0, 0, .null, [])) (y_s := (33, [some (.ref _), some (.int _), some (.int _), none], [], _)) rfl (u_ rfl) ?_
    refine w_t (pc := 33) (e_s := (0, 1, 0, 0, 0, .int 1, [])) (y_s := (34, [some (.ref _), some (.int _), some (.int _), none], [.int _], _)) rfl (u_ rfl) ?_
    refine w_t (pc := 34) (e_s := (3, 1, 0, 0, 0, .null, [])) (y_s := (35, [some (.ref _), some (.int _), some (.int _), none], [.ref _, .int _], _)) rfl (u_ rfl) ?_
    refine w20r (pc := 35) (len_s := 3) (q_s := 103) rfl (krq hk rfl) ?_
    refine w_t (pc := 38) (e_s := (0, 2, 0, 0, 0, .int 92, [])) (y_s := (40, [some (.ref _), some (.int _), some (.int _), none], [.int _, .ref _, .int _], _)) rfl (u_ rfl) ?_
    refine w_t (pc := 40) (e_s := (1, 1, 1, 0, 0, .null, [])) (y_s := (41, [some (.ref _), some (.int _), some (.int _), none], [.int _, .int _, .ref _, .int _], _)) rfl (u_ rfl) ?_
    refine w_t (pc := 41) (e_s := (7, 1, 0, 0, 0, .null, [])) (y_s := (42, [some (.ref _), some (.int _), some (.int _), none], [.int (_ + _), .ref _, .int _], _)) rfl (u_ rfl) ?_
    refine w22 (pc := 42) (len_s := 1) rfl (hk.1 103 0 104 rfl rfl) (fun c3_s => ?_)
    replace t_s := t_s c3_s
    refine w_t (pc := 43) (e_s := (7, 1, 0, 0, 0, .null, [])) (y_s := (44, [some (.ref _), some (.int _), some (.int _), none], [.int (_ + _)], _)) rfl (u_ rfl) ?_
    refine w_t (pc := 44) (e_s := (1, 1, 2, 0, 0, .null, [])) (y_s := (45, [some (.ref _), some (.int _), some (.int _), none], [.int _, .int _], _)) rfl (u_ rfl) ?_
    refine w_t (pc := 45) (e_s := (0, 1, 0, 0, 0, .int 3, [])) (y_s := (46, [some (.ref _), some (.int _), some (.int _), none], [.int _, .int _, .int _], _)) rfl (u_ rfl) ?_
    refine w8 (pc := 46) (len_s := 1) rfl ?_
    refine w_t (pc := 47) (e_s := (7, 1, 0, 0, 0, .null, [])) (y_s := (48, [some (.ref _), some (.int _), some (.int _), none], [.int (_ + _)], _)) rfl (u_ rfl) ?_
    refine w_t (pc := 48) (e_s := (3, 1, 0, 0, 0, .null, [])) (y_s := (49, [some (.ref _), some (.int _), some (.int _), none], [.ref _, .int _], _)) rfl (u_ rfl) ?_
    refine w20r (pc := 49) (len_s := 3) (q_s := 112) rfl (krq hk rfl) ?_
    refine w_t (pc := 52) (e_s := (0, 1, 0, 0, 0, .int 0, [])) (y_s := (53, [some (.ref _), some (.int _), some (.int _), none], [.int _, .ref _, .int _], _)) rfl (u_ rfl) ?_
    refine w22 (pc := 53) (len_s := 1) rfl (hk.1 112 0 7 rfl rfl) (fun c4_s => ?_)
    refine w_t (pc := 54) (e_s := (0, 1, 0, 0, 0, .int 2, [])) (y_s := (55, [some (.ref _), some (.int _), some (.int _), none], [.int _, .int _, .int _], _)) rfl (u_ rfl) ?_
    refine w8 (pc := 55) (len_s := 1) rfl ?_
    refine w_t (pc := 56) (e_s := (7, 1, 0, 1, 0, .null, [])) (y_s := (57, [some (.ref _), some (.int _), some (.int _), none], [.int (_ - _)], _)) rfl (u_ rfl) ?_
    refine w_t (pc := 57) (e_s := (4, 1, 3, 0, 0, .null, [])) (y_s := (58, [some (.ref _), some (.int _), some (.int _), some (.int _)], [], _)) rfl (u_ rfl) ?_
    refine w_t (pc := 58) (e_s := (3, 1, 0, 0, 0, .null, [])) (y_s := (59, [some (.ref _), some (.int _), some (.int _), some (.int _)], [.ref _], _)) rfl (u_ rfl) ?_
    refine w20 (pc := 59) (len_s := 3) rfl ?_
    refine wq2 (pc := 62) (len_s := 3) rfl rfl (fun c5_s => ?_) (fun c5_s => ?_)
    · replace t_s := t_s.1 c5_s
      refine w_t (pc := 148) (e_s := (1, 1, 3, 0, 0, .null, [])) (y_s := (149, [some (.ref _), some (.int _), some (.int _), some (.int _)], [.int _], _)) rfl (u_ rfl) ?_
      refine wq3 (pc := 149) (len_s := 3) rfl rfl (fun c6_s => ?_) (fun c6_s => ?_)
      · replace t_s := t_s.1 c6_s
        refine w_t (pc := 152) (e_s := (0, 1, 0, 0, 0, .int 0, [])) (y_s := (153, [some (.ref _), some (.int _), some (.int _), some (.int _)], [.int _], _)) rfl (u_ rfl) ?_
        refine w_t (pc := 153) (e_s := (17, 3, 168, 0, 0, .null, [])) (y_s := (168, [some (.ref _), some (.int _), some (.int _), some (.int _)], [.int _], _)) rfl (u_ rfl) ?_
        exact wrI (pc := 168) (len_s := 1) rfl hk t_s
      · replace t_s := t_s.2 c6_s
        refine w_t (pc := 156) (e_s := (1, 1, 3, 0, 0, .null, [])) (y_s := (157, [some (.ref _), some (.int _), some (.int _), some (.int _)], [.int _], _)) rfl (u_ rfl) ?_
        refine w_t (pc := 157) (e_s := (0, 2, 0, 0, 0, .int 9, [])) (y_s := (159, [some (.ref _), some (.int _), some (.int _), some (.int _)], [.int _, .int _], _)) rfl (u_ rfl) ?_
        refine wi5 (pc := 159) (len_s := 3) (Y := 9) rfl rfl (by decide) (fun c7_s => ?_) (fun c7_s => ?_)
        · replace t_s := t_s.1 c7_s
          refine w_t (pc := 162) (e_s := (0, 2, 0, 0, 0, .int 9, [])) (y_s := (164, [some (.ref _), some (.int _), some (.int _), some (.int _)], [.int _], _)) rfl (u_ rfl) ?_
          refine w_t (pc := 164) (e_s := (17, 3, 168, 0, 0, .null, [])) (y_s := (168, [some (.ref _), some (.int _), some (.int _), some (.int _)], [.int _], _)) rfl (u_ rfl) ?_
          exact wrI (pc := 168) (len_s := 1) rfl hk t_s
        · replace t_s := t_s.2 c7_s
          refine w_t (pc := 167) (e_s := (1, 1, 3, 0, 0, .null, [])) (y_s := (168, [some (.ref _), some (.int _), some (.int _), some (.int _)], [.int _], _)) rfl (u_ rfl) ?_
          exact wrI (pc := 168) (len_s := 1) rfl hk t_s
    · replace t_s := t_s.2 c5_s
      refine w_t (pc := 65) (e_s := (3, 1, 0, 0, 0, .null, [])) (y_s := (66, [some (.ref _), some (.int _), some (.int _), some (.int _)], [.ref _], _)) rfl (u_ rfl) ?_
      refine w20r (pc := 66) (len_s := 3) (q_s := 111) rfl (krq hk rfl) ?_
      refine w_t (pc := 69) (e_s := (0, 1, 0, 0, 0, .int 0, [])) (y_s := (70, [some (.ref _), some (.int _), some (.int _), some (.int _)], [.int _, .ref _], _)) rfl (u_ rfl) ?_
      refine w_t (pc := 70) (e_s := (3, 1, 0, 0, 0, .null, [])) (y_s := (71, [some (.ref _), some (.int _), some (.int _), some (.int _)], [.ref _, .int _, .ref _], _)) rfl (u_ rfl) ?_
      refine w20r (pc := 71) (len_s := 3) (q_s := 112) rfl (krq hk rfl) ?_
      refine w_t (pc := 74) (e_s := (0, 1, 0, 0, 0, .int 0, [])) (y_s := (75, [some (.ref _), some (.int _), some (.int _), some (.int _)], [.int _, .ref _, .int _, .ref _], _)) rfl (u_ rfl) ?_
      refine w22 (pc := 75) (len_s := 1) rfl (hk.1 112 0 7 rfl rfl) (fun c8_s => ?_)
      refine w25 (pc := 76) (len_s := 1) rfl (hk.1 111 0 6 rfl rfl) (fun c9_s => ?_)
      refine w_t (pc := 77) (e_s := (3, 1, 0, 0, 0, .null, [])) (y_s := (78, [some (.ref _), some (.int _), some (.int _), some (.int _)], [.ref _], _)) rfl (u_ rfl) ?_
      refine w20r (pc := 78) (len_s := 3) (q_s := 111) rfl (krq hk rfl) ?_
      refine w_t (pc := 81) (e_s := (0, 1, 0, 0, 0, .int 1, [])) (y_s := (82, [some (.ref _), some (.int _), some (.int _), some (.int _)], [.int _, .ref _], _)) rfl (u_ rfl) ?_
      refine w_t (pc := 82) (e_s := (3, 1, 0, 0, 0, .null, [])) (y_s := (83, [some (.ref _), some (.int _), some (.int _), some (.int _)], [.ref _, .int _, .ref _], _)) rfl (u_ rfl) ?_
      refine w20r (pc := 83) (len_s := 3) (q_s := 112) rfl (krq hk rfl) ?_
      refine w_t (pc := 86) (e_s := (0, 1, 0, 0, 0, .int 2, [])) (y_s := (87, [some (.ref _), some (.int _), some (.int _), some (.int _)], [.int _, .ref _, .int _, .ref _], _)) rfl (u_ rfl) ?_
      refine w22 (pc := 87) (len_s := 1) rfl (hk.1 112 0 7 rfl rfl) (fun c10_s => ?_)
      refine w25 (pc := 88) (len_s := 1) rfl (hk.1 111 0 6 rfl rfl) (fun c11_s => ?_)
      refine w_t (pc := 89) (e_s := (3, 1, 0, 0, 0, .null, [])) (y_s := (90, [some (.ref _), some (.int _), some (.int _), some (.int _)], [.ref _], _)) rfl (u_ rfl) ?_
      refine w20r (pc := 90) (len_s := 3) (q_s := 111) rfl (krq hk rfl) ?_
      refine w_t (pc := 93) (e_s := (0, 1, 0, 0, 0, .int 2, [])) (y_s := (94, [some (.ref _), some (.int _), some (.int _), some (.int _)], [.int _, .ref _], _)) rfl (u_ rfl) ?_
      refine w_t (pc := 94) (e_s := (3, 1, 0, 0, 0, .null, [])) (y_s := (95, [some (.ref _), some (.int _), some (.int _), some (.int _)], [.ref _, .int _, .ref _], _)) rfl (u_ rfl) ?_
      refine w20r (pc := 95) (len_s := 3) (q_s := 112) rfl (krq hk rfl) ?_
      refine w_t (pc := 98) (e_s := (0, 1, 0, 0, 0, .int 3, [])) (y_s := (99, [some (.ref _), some (.int _), some (.int _), some (.int _)], [.int _, .ref _, .int _, .ref _], _)) rfl (u_ rfl) ?_
      refine w22 (pc := 99) (len_s := 1) rfl (hk.1 112 0 7 rfl rfl) (fun c12_s => ?_)
      refine w25 (pc := 100) (len_s := 1) rfl (hk.1 111 0 6 rfl rfl) (fun c13_s => ?_)
      refine w_t (pc := 101) (e_s := (3, 1, 0, 0, 0, .null, [])) (y_s := (102, [some (.ref _), some (.int _), some (.int _), some (.int _)], [.ref _], _)) rfl (u_ rfl) ?_
      refine w20r (pc := 102) (len_s := 3) (q_s := 111) rfl (krq hk rfl) ?_
      refine w_t (pc := 105) (e_s := (0, 1, 0, 0, 0, .int 3, [])) (y_s := (106, [some (.ref _), some (.int _), some (.int _), some (.int _)], [.int _, .ref _], _)) rfl (u_ rfl) ?_
      refine w_t (pc := 106) (e_s := (1, 1, 2, 0, 0, .null, [])) (y_s := (107, [some (.ref _), some (.int _), some (.int _), some (.int _)], [.int _, .int _, .ref _], _)) rfl (u_ rfl) ?_
      refine w25 (pc := 107) (len_s := 1) rfl (hk.1 111 0 6 rfl rfl) (fun c14_s => ?_)
      refine w_t (pc := 108) (e_s := (3, 1, 0, 0, 0, .null, [])) (y_s := (109, [some (.ref _), some (.int _), some (.int _), some (.int _)], [.ref _], _)) rfl (u_ rfl) ?_
      refine w20r (pc := 109) (len_s := 3) (q_s := 111) rfl (krq hk rfl) ?_
      refine w_t (pc := 112) (e_s := (0, 1, 0, 0, 0, .int 4, [])) (y_s := (113, [some (.ref _), some (.int _), some (.int _), some (.int _)], [.int _, .ref _], _)) rfl (u_ rfl) ?_
      refine w_t (pc := 113) (e_s := (3, 1, 0, 0, 0, .null, [])) (y_s := (114, [some (.ref _), some (.int _), some (.int _), some (.int _)], [.ref _, .int _, .ref _], _)) rfl (u_ rfl) ?_
      refine w20r (pc := 114) (len_s := 3) (q_s := 103) rfl (krq hk rfl) ?_
      refine w_t (pc := 117) (e_s := (0, 2, 0, 0, 0, .int 80, [])) (y_s := (119, [some (.ref _), some (.int _), some (.int _), some (.int _)], [.int _, .ref _, .int _, .ref _], _)) rfl (u_ rfl) ?_
      refine w_t (pc := 119) (e_s := (1, 1, 1, 0, 0, .null, [])) (y_s := (120, [some (.ref _), some (.int _), some (.int _), some (.int _)], [.int _, .int _, .ref _, .int _, .ref _], _)) rfl (u_ rfl) ?_
      refine w_t (pc := 120) (e_s := (7, 1, 0, 0, 0, .null, [])) (y_s := (121, [some (.ref _), some (.int _), some (.int _), some (.int _)], [.int (_ + _), .ref _, .int _, .ref _], _)) rfl (u_ rfl) ?_
      refine w22 (pc := 121) (len_s := 1) rfl (hk.1 103 0 104 rfl rfl) (fun c15_s => ?_)
      replace t_s := t_s c15_s
      refine w25 (pc := 122) (len_s := 1) rfl (hk.1 111 0 6 rfl rfl) (fun c16 => ?_)
      refine w_t (pc := 123) (e_s := (3, 1, 0, 0, 0, .null, [])) (y_s := (124, [some (.ref _), some (.int _), some (.int _), some (.int _)], [.ref _], _)) rfl (u_ rfl) ?_
      refine w20r (pc := 124) (len_s := 3) (q_s := 111) rfl (krq hk rfl) ?_
      refine w_t (pc := 127) (e_s := (0, 1, 0, 0, 0, .int 5, [])) (y_s := (128, [some (.ref _), some (.int _), some (.int _), some (.int _)], [.int _, .ref _], _)) rfl (u_ rfl) ?_
      refine w_t (pc := 128) (e_s := (3, 1, 0, 0, 0, .null, [])) (y_s := (129, [some (.ref _), some (.int _), some (.int _), some (.int _)], [.ref _, .int _, .ref _], _)) rfl (u_ rfl) ?_
      refine w20r (pc := 129) (len_s := 3) (q_s := 103) rfl (krq hk rfl) ?_
      refine w_t (pc := 132) (e_s := (0, 2, 0, 0, 0, .int 92, [])) (y_s := (134, [some (.ref _), some (.int _), some (.int _), some (.int _)], [.int _, .ref _, .int _, .ref _], _)) rfl (u_ rfl) ?_
      refine w_t (pc := 134) (e_s := (1, 1, 1, 0, 0, .null, [])) (y_s := (135, [some (.ref _), some (.int _), some (.int _), some (.int _)], [.int _, .int _, .ref _, .int _, .ref _], _)) rfl (u_ rfl) ?_
      refine w_t (pc := 135) (e_s := (7, 1, 0, 0, 0, .null, [])) (y_s := (136, [some (.ref _), some (.int _), some (.int _), some (.int _)], [.int (_ + _), .ref _, .int _, .ref _], _)) rfl (u_ rfl) ?_
      refine w22 (pc := 136) (len_s := 1) rfl (hk.1 103 0 104 rfl rfl) (fun c17 => ?_)
      refine w25 (pc := 137) (len_s := 1) rfl (hk.1 111 0 6 rfl rfl) (fun c18_s => ?_)
      refine w_t (pc := 138) (e_s := (3, 1, 0, 0, 0, .null, [])) (y_s := (139, [some (.ref _), some (.int _), some (.int _), some (.int _)], [.ref _], _)) rfl (u_ rfl) ?_
      refine w_t (pc := 139) (e_s := (0, 1, 0, 0, 0, .int 0, [])) (y_s := (140, [some (.ref _), some (.int _), some (.int _), some (.int _)], [.int _, .ref _], _)) rfl (u_ rfl) ?_
      refine w_t (pc := 140) (e_s := (3, 1, 0, 0, 0, .null, [])) (y_s := (141, [some (.ref _), some (.int _), some (.int _), some (.int _)], [.ref _, .int _, .ref _], _)) rfl (u_ rfl) ?_
      refine w20 (pc := 141) (len_s := 3) rfl ?_
      refine wcI (pc := 144) (len_s := 3) rfl rfl (l := [some (.ref _), some (.int _), some (.int _), none, none, none, none, none]) rfl (wmI t_s (fun v19 h19 hk t_s => ?_))
      replace t_s := t_s hk
      refine w_t (pc := 147) (e_s := (4, 1, 3, 0, 0, .null, [])) (y_s := (148, [some (.ref _), some (.int _), some (.int _), some (.int _)], [], _)) rfl (u_ rfl) ?_
      refine w_t (pc := 148) (e_s := (1, 1, 3, 0, 0, .null, [])) (y_s := (149, [some (.ref _), some (.int _), some (.int _), some (.int _)], [.int _], _)) rfl (u_ rfl) ?_
      refine wq3 (pc := 149) (len_s := 3) rfl rfl (fun c20_s => ?_) (fun c20_s => ?_)
      · replace t_s := t_s.1 c20_s
        refine w_t (pc := 152) (e_s := (0, 1, 0, 0, 0, .int 0, [])) (y_s := (153, [some (.ref _), some (.int _), some (.int _), some (.int _)], [.int _], _)) rfl (u_ rfl) ?_
        refine w_t (pc := 153) (e_s := (17, 3, 168, 0, 0, .null, [])) (y_s := (168, [some (.ref _), some (.int _), some (.int _), some (.int _)], [.int _], _)) rfl (u_ rfl) ?_
        exact wrI (pc := 168) (len_s := 1) rfl hk t_s
      · replace t_s := t_s.2 c20_s
        refine w_t (pc := 156) (e_s := (1, 1, 3, 0, 0, .null, [])) (y_s := (157, [some (.ref _), some (.int _), some (.int _), some (.int _)], [.int _], _)) rfl (u_ rfl) ?_
        refine w_t (pc := 157) (e_s := (0, 2, 0, 0, 0, .int 9, [])) (y_s := (159, [some (.ref _), some (.int _), some (.int _), some (.int _)], [.int _, .int _], _)) rfl (u_ rfl) ?_
        refine wi5 (pc := 159) (len_s := 3) (Y := 9) rfl rfl (by decide) (fun c21 => ?_) (fun c21 => ?_)
        · replace t_s := t_s.1 c21
          refine w_t (pc := 162) (e_s := (0, 2, 0, 0, 0, .int 9, [])) (y_s := (164, [some (.ref _), some (.int _), some (.int _), some (.int _)], [.int _], _)) rfl (u_ rfl) ?_
          refine w_t (pc := 164) (e_s := (17, 3, 168, 0, 0, .null, [])) (y_s := (168, [some (.ref _), some (.int _), some (.int _), some (.int _)], [.int _], _)) rfl (u_ rfl) ?_
          exact wrI (pc := 168) (len_s := 1) rfl hk t_s
        · replace t_s := t_s.2 c21
          refine w_t (pc := 167) (e_s := (1, 1, 3, 0, 0, .null, [])) (y_s := (168, [some (.ref _), some (.int _), some (.int _), some (.int _)], [.int _], _)) rfl (u_ rfl) ?_
          exact wrI (pc := 168) (len_s := 1) rfl hk t_s
  · replace t_s := t_s.2 c2_s
    refine w_t (pc := 15) (e_s := (3, 1, 0, 0, 0, .null, [])) (y_s := (16, [some (.ref _), some (.int _), none, none], [.ref _], _)) rfl (u_ rfl) ?_
    refine w20r (pc := 16) (len_s := 3) (q_s := 112) rfl (krq hk rfl) ?_
    refine w_t (pc := 19) (e_s := (0, 1, 0, 0, 0, .int 1, [])) (y_s := (20, [some (.ref _), some (.int _), none, none], [.int _, .ref _], _)) rfl (u_ rfl) ?_
    refine w22 (pc := 20) (len_s := 1) rfl (hk.1 112 0 7 rfl rfl) (fun c22 => ?_)
    refine w_t (pc := 21) (e_s := (3, 1, 0, 0, 0, .null, [])) (y_s := (22, [some (.ref _), some (.int _), none, none], [.ref _, .int _], _)) rfl (u_ rfl) ?_
    refine w20r (pc := 22) (len_s := 3) (q_s := 112) rfl (krq hk rfl) ?_
    refine w_t (pc := 25) (e_s := (0, 2, 0, 0, 0, .int 6, [])) (y_s := (27, [some (.ref _), some (.int _), none, none], [.int _, .ref _, .int _], _)) rfl (u_ rfl) ?_
    refine w22 (pc := 27) (len_s := 1) rfl (hk.1 112 0 7 rfl rfl) (fun c23_s => ?_)
    refine w_t (pc := 28) (e_s := (7, 1, 0, 1, 0, .null, [])) (y_s := (29, [some (.ref _), some (.int _), none, none], [.int (_ - _)], _)) rfl (u_ rfl) ?_
    refine wcI (pc := 29) (len_s := 3) rfl rfl (l := [some (.int _)]) rfl ?_
    refine w_t (pc := 0) (e_s := (1, 1, 0, 0, 0, .null, [])) (y_s := (1, [some (.int _)], [.int _], _)) rfl (u_ rfl) ?_
    refine wq3 (pc := 1) (len_s := 3) rfl rfl (fun c24_s => ?_) (fun c24_s => ?_)
    · replace t_s := t_s.1 c24_s
      refine w_t (pc := 4) (e_s := (1, 1, 0, 0, 0, .null, [])) (y_s := (5, [some (.int _)], [.int _], _)) rfl (u_ rfl) ?_
      refine w_t (pc := 5) (e_s := (9, 1, 0, 0, 0, .null, [])) (y_s := (6, [some (.int _)], [.int (-_)], _)) rfl (u_ rfl) ?_
      refine w_t (pc := 6) (e_s := (17, 3, 10, 0, 0, .null, [])) (y_s := (10, [some (.int _)], [.int _], _)) rfl (u_ rfl) ?_
      refine wrI (pc := 10) (len_s := 1) rfl hk ?_
      show wF _ 180 (32, [some (.ref _), some (.int _), none, none], [.int _], _) _
      refine w_t (pc := 32) (e_s := (4, 1, 2, 0, 0, .null, [])) (y_s := (33, [some (.ref _), some (.int _), some (.int _), none], [], _)) rfl (u_ rfl) ?_
      refine w_t (pc := 33) (e_s := (0, 1, 0, 0, 0, .int 1, [])) (y_s := (34, [some (.ref _), some (.int _), some (.int _), none], [.int _], _)) rfl (u_ rfl) ?_
      refine w_t (pc := 34) (e_s := (3, 1, 0, 0, 0, .null, [])) (y_s := (35, [some (.ref _), some (.int _), some (.int _), none], [.ref _, .int _], _)) rfl (u_ rfl) ?_
      refine w20r (pc := 35) (len_s := 3) (q_s := 103) rfl (krq hk rfl) ?_
      refine w_t (pc := 38) (e_s := (0, 2, 0, 0, 0, .int 92, [])) (y_s := (40, [some (.ref _), some (.int _), some (.int _), none], [.int _, .ref _, .int _], _)) rfl (u_ rfl) ?_
      refine w_t (pc := 40) (e_s := (1, 1, 1, 0, 0, .null, [])) (y_s := (41, [some (.ref _), some (.int _), some (.int _), none], [.int _, .int _, .ref _, .int _], _)) rfl (u_ rfl) ?_
      refine w_t (pc := 41) (e_s := (7, 1, 0, 0, 0, .null, [])) (y_s := (42, [some (.ref _), some (.int _), some (.int _), none], [.int (_ + _), .ref _, .int _], _)) rfl (u_ rfl) ?_
      refine w22 (pc := 42) (len_s := 1) rfl (hk.1 103 0 104 rfl rfl) (fun c25_s => ?_)
      replace t_s := t_s c25_s
      refine w_t (pc := 43) (e_s := (7, 1, 0, 0, 0, .null, [])) (y_s := (44, [some (.ref _), some (.int _), some (.int _), none], [.int (_ + _)], _)) rfl (u_ rfl) ?_
      refine w_t (pc := 44) (e_s := (1, 1, 2, 0, 0, .null, [])) (y_s := (45, [some (.ref _), some (.int _), some (.int _), none], [.int _, .int _], _)) rfl (u_ rfl) ?_
      refine w_t (pc := 45) (e_s := (0, 1, 0, 0, 0, .int 3, [])) (y_s := (46, [some (.ref _), some (.int _), some (.int _), none], [.int _, .int _, .int _], _)) rfl (u_ rfl) ?_
      refine w8 (pc := 46) (len_s := 1) rfl ?_
      refine w_t (pc := 47) (e_s := (7, 1, 0, 0, 0, .null, [])) (y_s := (48, [some (.ref _), some (.int _), some (.int _), none], [.int (_ + _)], _)) rfl (u_ rfl) ?_
      refine w_t (pc := 48) (e_s := (3, 1, 0, 0, 0, .null, [])) (y_s := (49, [some (.ref _), some (.int _), some (.int _), none], [.ref _, .int _], _)) rfl (u_ rfl) ?_
      refine w20r (pc := 49) (len_s := 3) (q_s := 112) rfl (krq hk rfl) ?_
      refine w_t (pc := 52) (e_s := (0, 1, 0, 0, 0, .int 0, [])) (y_s := (53, [some (.ref _), some (.int _), some (.int _), none], [.int _, .ref _, .int _], _)) rfl (u_ rfl) ?_
      refine w22 (pc := 53) (len_s := 1) rfl (hk.1 112 0 7 rfl rfl) (fun c26 => ?_)
      refine w_t (pc := 54) (e_s := (0, 1, 0, 0, 0, .int 2, [])) (y_s := (55, [some (.ref _), some (.int _), some (.int _), none], [.int _, .int _, .int _], _)) rfl (u_ rfl) ?_
      refine w8 (pc := 55) (len_s := 1) rfl ?_
      refine w_t (pc := 56) (e_s := (7, 1, 0, 1, 0, .null, [])) (y_s := (57, [some (.ref _), some (.int _), some (.int _), none], [.int (_ - _)], _)) rfl (u_ rfl) ?_
      refine w_t (pc := 57) (e_s := (4, 1, 3, 0, 0, .null, [])) (y_s := (58, [some (.ref _), some (.int _), some (.int _), some (.int _)], [], _)) rfl (u_ rfl) ?_
      refine w_t (pc := 58) (e_s := (3, 1, 0, 0, 0, .null, [])) (y_s := (59, [some (.ref _), some (.int _), some (.int _), some (.int _)], [.ref _], _)) rfl (u_ rfl) ?_
      refine w20 (pc := 59) (len_s := 3) rfl ?_
      refine wq2 (pc := 62) (len_s := 3) rfl rfl (fun c27_s => ?_) (fun c27_s => ?_)
      · replace t_s := t_s.1 c27_s
        refine w_t (pc := 148) (e_s := (1, 1, 3, 0, 0, .null, [])) (y_s := (149, [some (.ref _), some (.int _), some (.int _), some (.int _)], [.int _], _)) rfl (u_ rfl) ?_
        refine wq3 (pc := 149) (len_s := 3) rfl rfl (fun c28_s => ?_) (fun c28_s => ?_)
        · replace t_s := t_s.1 c28_s
          refine w_t (pc := 152) (e_s := (0, 1, 0, 0, 0, .int 0, [])) (y_s := (153, [some (.ref _), some (.int _), some (.int _), some (.int _)], [.int _], _)) rfl (u_ rfl) ?_
          refine w_t (pc := 153) (e_s := (17, 3, 168, 0, 0, .null, [])) (y_s := (168, [some (.ref _), some (.int _), some (.int _), some (.int _)], [.int _], _)) rfl (u_ rfl) ?_
          exact wrI (pc := 168) (len_s := 1) rfl hk t_s
        · replace t_s := t_s.2 c28_s
          refine w_t (pc := 156) (e_s := (1, 1, 3, 0, 0, .null, [])) (y_s := (157, [some (.ref _), some (.int _), some (.int _), some (.int _)], [.int _], _)) rfl (u_ rfl) ?_
          refine w_t (pc := 157) (e_s := (0, 2, 0, 0, 0, .int 9, [])) (y_s := (159, [some (.ref _), some (.int _), some (.int _), some (.int _)], [.int _, .int _], _)) rfl (u_ rfl) ?_
          refine wi5 (pc := 159) (len_s := 3) (Y := 9) rfl rfl (by decide) (fun c29_s => ?_) (fun c29_s => ?_)
          · replace t_s := t_s.1 c29_s
            refine w_t (pc := 162) (e_s := (0, 2, 0, 0, 0, .int 9, [])) (y_s := (164, [some (.ref _), some (.int _), some (.int _), some (.int _)], [.int _], _)) rfl (u_ rfl) ?_
            refine w_t (pc := 164) (e_s := (17, 3, 168, 0, 0, .null, [])) (y_s := (168, [some (.ref _), some (.int _), some (.int _), some (.int _)], [.int _], _)) rfl (u_ rfl) ?_
            exact wrI (pc := 168) (len_s := 1) rfl hk t_s
          · replace t_s := t_s.2 c29_s
            refine w_t (pc := 167) (e_s := (1, 1, 3, 0, 0, .null, [])) (y_s := (168, [some (.ref _), some (.int _), some (.int _), some (.int _)], [.int _], _)) rfl (u_ rfl) ?_
            exact wrI (pc := 168) (len_s := 1) rfl hk t_s
      · replace t_s := t_s.2 c27_s
        refine w_t (pc := 65) (e_s := (3, 1, 0, 0, 0, .null, [])) (y_s := (66, [some (.ref _), some (.int _), some (.int _), some (.int _)], [.ref _], _)) rfl (u_ rfl) ?_
        refine w20r (pc := 66) (len_s := 3) (q_s := 111) rfl (krq hk rfl) ?_
        refine w_t (pc := 69) (e_s := (0, 1, 0, 0, 0, .int 0, [])) (y_s := (70, [some (.ref _), some (.int _), some (.int _), some (.int _)], [.int _, .ref _], _)) rfl (u_ rfl) ?_
        refine w_t (pc := 70) (e_s := (3, 1, 0, 0, 0, .null, [])) (y_s := (71, [some (.ref _), some (.int _), some (.int _), some (.int _)], [.ref _, .int _, .ref _], _)) rfl (u_ rfl) ?_
        refine w20r (pc := 71) (len_s := 3) (q_s := 112) rfl (krq hk rfl) ?_
        refine w_t (pc := 74) (e_s := (0, 1, 0, 0, 0, .int 0, [])) (y_s := (75, [some (.ref _), some (.int _), some (.int _), some (.int _)], [.int _, .ref _, .int _, .ref _], _)) rfl (u_ rfl) ?_
        refine w22 (pc := 75) (len_s := 1) rfl (hk.1 112 0 7 rfl rfl) (fun c30_s => ?_)
        refine w25 (pc := 76) (len_s := 1) rfl (hk.1 111 0 6 rfl rfl) (fun c31_s => ?_)
        refine w_t (pc := 77) (e_s := (3, 1, 0, 0, 0, .null, [])) (y_s := (78, [some (.ref _), some (.int _), some (.int _), some (.int _)], [.ref _], _)) rfl (u_ rfl) ?_
        refine w20r (pc := 78) (len_s := 3) (q_s := 111) rfl (krq hk rfl) ?_
        refine w_t (pc := 81) (e_s := (0, 1, 0, 0, 0, .int 1, [])) (y_s := (82, [some (.ref _), some (.int _), some (.int _), some (.int _)], [.int _, .ref _], _)) rfl (u_ rfl) ?_
        refine w_t (pc := 82) (e_s := (3, 1, 0, 0, 0, .null, [])) (y_s := (83, [some (.ref _), some (.int _), some (.int _), some (.int _)], [.ref _, .int _, .ref _], _)) rfl (u_ rfl) ?_
        refine w20r (pc := 83) (len_s := 3) (q_s := 112) rfl (krq hk rfl) ?_
        refine w_t (pc := 86) (e_s := (0, 1, 0, 0, 0, .int 2, [])) (y_s := (87, [some (.ref _), some (.int _), some (.int _), some (.int _)], [.int _, .ref _, .int _, .ref _], _)) rfl (u_ rfl) ?_
        refine w22 (pc := 87) (len_s := 1) rfl (hk.1 112 0 7 rfl rfl) (fun c32_s => ?_)
        refine w25 (pc := 88) (len_s := 1) rfl (hk.1 111 0 6 rfl rfl) (fun c33_s => ?_)
        refine w_t (pc := 89) (e_s := (3, 1, 0, 0, 0, .null, [])) (y_s := (90, [some (.ref _), some (.int _), some (.int _), some (.int _)], [.ref _], _)) rfl (u_ rfl) ?_
        refine w20r (pc := 90) (len_s := 3) (q_s := 111) rfl (krq hk rfl) ?_
        refine w_t (pc := 93) (e_s := (0, 1, 0, 0, 0, .int 2, [])) (y_s := (94, [some (.ref _), some (.int _), some (.int _), some (.int _)], [.int _, .ref _], _)) rfl (u_ rfl) ?_
        refine w_t (pc := 94) (e_s := (3, 1, 0, 0, 0, .null, [])) (y_s := (95, [some (.ref _), some (.int _), some (.int _), some (.int _)], [.ref _, .int _, .ref _], _)) rfl (u_ rfl) ?_
        refine w20r (pc := 95) (len_s := 3) (q_s := 112) rfl (krq hk rfl) ?_
        refine w_t (pc := 98) (e_s := (0, 1, 0, 0, 0, .int 3, [])) (y_s := (99, [some (.ref _), some (.int _), some (.int _), some (.int _)], [.int _, .ref _, .int _, .ref _], _)) rfl (u_ rfl) ?_
        refine w22 (pc := 99) (len_s := 1) rfl (hk.1 112 0 7 rfl rfl) (fun c34_s => ?_)
        refine w25 (pc := 100) (len_s := 1) rfl (hk.1 111 0 6 rfl rfl) (fun c35_s => ?_)
        refine w_t (pc := 101) (e_s := (3, 1, 0, 0, 0, .null, [])) (y_s := (102, [some (.ref _), some (.int _), some (.int _), some (.int _)], [.ref _], _)) rfl (u_ rfl) ?_
        refine w20r (pc := 102) (len_s := 3) (q_s := 111) rfl (krq hk rfl) ?_
        refine w_t (pc := 105) (e_s := (0, 1, 0, 0, 0, .int 3, [])) (y_s := (106, [some (.ref _), some (.int _), some (.int _), some (.int _)], [.int _, .ref _], _)) rfl (u_ rfl) ?_
        refine w_t (pc := 106) (e_s := (1, 1, 2, 0, 0, .null, [])) (y_s := (107, [some (.ref _), some (.int _), some (.int _), some (.int _)], [.int _, .int _, .ref _], _)) rfl (u_ rfl) ?_
        refine w25 (pc := 107) (len_s := 1) rfl (hk.1 111 0 6 rfl rfl) (fun c36_s => ?_)
        refine w_t (pc := 108) (e_s := (3, 1, 0, 0, 0, .null, [])) (y_s := (109, [some (.ref _), some (.int _), some (.int _), some (.int _)], [.ref _], _)) rfl (u_ rfl) ?_
        refine w20r (pc := 109) (len_s := 3) (q_s := 111) rfl (krq hk rfl) ?_
        refine w_t (pc := 112) (e_s := (0, 1, 0, 0, 0, .int 4, [])) (y_s := (113, [some (.ref _), some (.int _), some (.int _), some (.int _)], [.int _, .ref _], _)) rfl (u_ rfl) ?_
        refine w_t (pc := 113) (e_s := (3, 1, 0, 0, 0, .null, [])) (y_s := (114, [some (.ref _), some (.int _), some (.int _), some (.int _)], [.ref _, .int _, .ref _], _)) rfl (u_ rfl) ?_
        refine w20r (pc := 114) (len_s := 3) (q_s := 103) rfl (krq hk rfl) ?_
        refine w_t (pc := 117) (e_s := (0, 2, 0, 0, 0, .int 80, [])) (y_s := (119, [some (.ref _), some (.int _), some (.int _), some (.int _)], [.int _, .ref _, .int _, .ref _], _)) rfl (u_ rfl) ?_
        refine w_t (pc := 119) (e_s := (1, 1, 1, 0, 0, .null, [])) (y_s := (120, [some (.ref _), some (.int _), some (.int _), some (.int _)], [.int _, .int _, .ref _, .int _, .ref _], _)) rfl (u_ rfl) ?_
        refine w_t (pc := 120) (e_s := (7, 1, 0, 0, 0, .null, [])) (y_s := (121, [some (.ref _), some (.int _), some (.int _), some (.int _)], [.int (_ + _), .ref _, .int _, .ref _], _)) rfl (u_ rfl) ?_
        refine w22 (pc := 121) (len_s := 1) rfl (hk.1 103 0 104 rfl rfl) (fun c37 => ?_)
        replace t_s := t_s c37
        refine w25 (pc := 122) (len_s := 1) rfl (hk.1 111 0 6 rfl rfl) (fun c38 => ?_)
        refine w_t (pc := 123) (e_s := (3, 1, 0, 0, 0, .null, [])) (y_s := (124, [some (.ref _), some (.int _), some (.int _), some (.int _)], [.ref _], _)) rfl (u_ rfl) ?_
        refine w20r (pc := 124) (len_s := 3) (q_s := 111) rfl (krq hk rfl) ?_
        refine w_t (pc := 127) (e_s := (0, 1, 0, 0, 0, .int 5, [])) (y_s := (128, [some (.ref _), some (.int _), some (.int _), some (.int _)], [.int _, .ref _], _)) rfl (u_ rfl) ?_
        refine w_t (pc := 128) (e_s := (3, 1, 0, 0, 0, .null, [])) (y_s := (129, [some (.ref _), some (.int _), some (.int _), some (.int _)], [.ref _, .int _, .ref _], _)) rfl (u_ rfl) ?_
        refine w20r (pc := 129) (len_s := 3) (q_s := 103) rfl (krq hk rfl) ?_
        refine w_t (pc := 132) (e_s := (0, 2, 0, 0, 0, .int 92, [])) (y_s := (134, [some (.ref _), some (.int _), some (.int _), some (.int _)], [.int _, .ref _, .int _, .ref _], _)) rfl (u_ rfl) ?_
        refine w_t (pc := 134) (e_s := (1, 1, 1, 0, 0, .null, [])) (y_s := (135, [some (.ref _), some (.int _), some (.int _), some (.int _)], [.int _, .int _, .ref _, .int _, .ref _], _)) rfl (u_ rfl) ?_
        refine w_t (pc := 135) (e_s := (7, 1, 0, 0, 0, .null, [])) (y_s := (136, [some (.ref _), some (.int _), some (.int _), some (.int _)], [.int (_ + _), .ref _, .int _, .ref _], _)) rfl (u_ rfl) ?_
        refine w22 (pc := 136) (len_s := 1) rfl (hk.1 103 0 104 rfl rfl) (fun c39_s => ?_)
        refine w25 (pc := 137) (len_s := 1) rfl (hk.1 111 0 6 rfl rfl) (fun c40_s => ?_)
        refine w_t (pc := 138) (e_s := (3, 1, 0, 0, 0, .null, [])) (y_s := (139, [some (.ref _), some (.int _), some (.int _), some (.int _)], [.ref _], _)) rfl (u_ rfl) ?_
        refine w_t (pc := 139) (e_s := (0, 1, 0, 0, 0, .int 0, [])) (y_s := (140, [some (.ref _), some (.int _), some (.int _), some (.int _)], [.int _, .ref _], _)) rfl (u_ rfl) ?_
        refine w_t (pc := 140) (e_s := (3, 1, 0, 0, 0, .null, [])) (y_s := (141, [some (.ref _), some (.int _), some (.int _), some (.int _)], [.ref _, .int _, .ref _], _)) rfl (u_ rfl) ?_
        refine w20 (pc := 141) (len_s := 3) rfl ?_
        refine wcI (pc := 144) (len_s := 3) rfl rfl (l := [some (.ref _), some (.int _), some (.int _), none, none, none, none, none]) rfl (wmI t_s (fun v41 h41 hk t_s => ?_))
        replace t_s := t_s hk
        refine w_t (pc := 147) (e_s := (4, 1, 3, 0, 0, .null, [])) (y_s := (148, [some (.ref _), some (.int _), some (.int _), some (.int _)], [], _)) rfl (u_ rfl) ?_
        refine w_t (pc := 148) (e_s := (1, 1, 3, 0, 0, .null, [])) (y_s := (149, [some (.ref _), some (.int _), some (.int _), some (.int _)], [.int _], _)) rfl (u_ rfl) ?_
        refine wq3 (pc := 149) (len_s := 3) rfl rfl (fun c42 => ?_) (fun c42 => ?_)
        · replace t_s := t_s.1 c42
          refine w_t (pc := 152) (e_s := (0, 1, 0, 0, 0, .int 0, [])) (y_s := (153, [some (.ref _), some (.int _), some (.int _), some (.int _)], [.int _], _)) rfl (u_ rfl) ?_
          refine w_t (pc := 153) (e_s := (17, 3, 168, 0, 0, .null, [])) (y_s := (168, [some (.ref _), some (.int _), some (.int _), some (.int _)], [.int _], _)) rfl (u_ rfl) ?_
          exact wrI (pc := 168) (len_s := 1) rfl hk t_s
        · replace t_s := t_s.2 c42
          refine w_t (pc := 156) (e_s := (1, 1, 3, 0, 0, .null, [])) (y_s := (157, [some (.ref _), some (.int _), some (.int _), some (.int _)], [.int _], _)) rfl (u_ rfl) ?_
          refine w_t (pc := 157) (e_s := (0, 2, 0, 0, 0, .int 9, [])) (y_s := (159, [some (.ref _), some (.int _), some (.int _), some (.int _)], [.int _, .int _], _)) rfl (u_ rfl) ?_
          refine wi5 (pc := 159) (len_s := 3) (Y := 9) rfl rfl (by decide) (fun c43_s => ?_) (fun c43_s => ?_)
          · replace t_s := t_s.1 c43_s
            refine w_t (pc := 162) (e_s := (0, 2, 0, 0, 0, .int 9, [])) (y_s := (164, [some (.ref _), some (.int _), some (.int _), some (.int _)], [.int _], _)) rfl (u_ rfl) ?_
            refine w_t (pc := 164) (e_s := (17, 3, 168, 0, 0, .null, [])) (y_s := (168, [some (.ref _), some (.int _), some (.int _), some (.int _)], [.int _], _)) rfl (u_ rfl) ?_
            exact wrI (pc := 168) (len_s := 1) rfl hk t_s
          · replace t_s := t_s.2 c43_s
            refine w_t (pc := 167) (e_s := (1, 1, 3, 0, 0, .null, [])) (y_s := (168, [some (.ref _), some (.int _), some (.int _), some (.int _)], [.int _], _)) rfl (u_ rfl) ?_
            exact wrI (pc := 168) (len_s := 1) rfl hk t_s
    · replace t_s := t_s.2 c24_s
      refine w_t (pc := 9) (e_s := (1, 1, 0, 0, 0, .null, [])) (y_s := (10, [some (.int _)], [.int _], _)) rfl (u_ rfl) ?_
      refine wrI (pc := 10) (len_s := 1) rfl hk ?_
      show wF _ 180 (32, [some (.ref _), some (.int _), none, none], [.int _], _) _
      refine w_t (pc := 32) (e_s := (4, 1, 2, 0, 0, .null, [])) (y_s := (33, [some (.ref _), some (.int _), some (.int _), none], [], _)) rfl (u_ rfl) ?_
      refine w_t (pc := 33) (e_s := (0, 1, 0, 0, 0, .int 1, [])) (y_s := (34, [some (.ref _), some (.int _), some (.int _), none], [.int _], _)) rfl (u_ rfl) ?_
      refine w_t (pc := 34) (e_s := (3, 1, 0, 0, 0, .null, [])) (y_s := (35, [some (.ref _), some (.int _), some (.int _), none], [.ref _, .int _], _)) rfl (u_ rfl) ?_
      refine w20r (pc := 35) (len_s := 3) (q_s := 103) rfl (krq hk rfl) ?_
      refine w_t (pc := 38) (e_s := (0, 2, 0, 0, 0, .int 92, [])) (y_s := (40, [some (.ref _), some (.int _), some (.int _), none], [.int _, .ref _, .int _], _)) rfl (u_ rfl) ?_
      refine w_t (pc := 40) (e_s := (1, 1, 1, 0, 0, .null, [])) (y_s := (41, [some (.ref _), some (.int _), some (.int _), none], [.int _, .int _, .ref _, .int _], _)) rfl (u_ rfl) ?_
      refine w_t (pc := 41) (e_s := (7, 1, 0, 0, 0, .null, [])) (y_s := (42, [some (.ref _), some (.int _), some (.int _), none], [.int (_ + _), .ref _, .int _], _)) rfl (u_ rfl) ?_
      refine w22 (pc := 42) (len_s := 1) rfl (hk.1 103 0 104 rfl rfl) (fun c44_s => ?_)
      replace t_s := t_s c44_s
      refine w_t (pc := 43) (e_s := (7, 1, 0, 0, 0, .null, [])) (y_s := (44, [some (.ref _), some (.int _), some (.int _), none], [.int (_ + _)], _)) rfl (u_ rfl) ?_
      refine w_t (pc := 44) (e_s := (1, 1, 2, 0, 0, .null, [])) (y_s := (45, [some (.ref _), some (.int _), some (.int _), none], [.int _, .int _], _)) rfl (u_ rfl) ?_
      refine w_t (pc := 45) (e_s := (0, 1, 0, 0, 0, .int 3, [])) (y_s := (46, [some (.ref _), some (.int _), some (.int _), none], [.int _, .int _, .int _], _)) rfl (u_ rfl) ?_
      refine w8 (pc := 46) (len_s := 1) rfl ?_
      refine w_t (pc := 47) (e_s := (7, 1, 0, 0, 0, .null, [])) (y_s := (48, [some (.ref _), some (.int _), some (.int _), none], [.int (_ + _)], _)) rfl (u_ rfl) ?_
      refine w_t (pc := 48) (e_s := (3, 1, 0, 0, 0, .null, [])) (y_s := (49, [some (.ref _), some (.int _), some (.int _), none], [.ref _, .int _], _)) rfl (u_ rfl) ?_
      refine w20r (pc := 49) (len_s := 3) (q_s := 112) rfl (krq hk rfl) ?_
      refine w_t (pc := 52) (e_s := (0, 1, 0, 0, 0, .int 0, [])) (y_s := (53, [some (.ref _), some (.int _), some (.int _), none], [.int _, .ref _, .int _], _)) rfl (u_ rfl) ?_
      refine w22 (pc := 53) (len_s := 1) rfl (hk.1 112 0 7 rfl rfl) (fun c45 => ?_)
      refine w_t (pc := 54) (e_s := (0, 1, 0, 0, 0, .int 2, [])) (y_s := (55, [some (.ref _), some (.int _), some (.int _), none], [.int _, .int _, .int _], _)) rfl (u_ rfl) ?_
      refine w8 (pc := 55) (len_s := 1) rfl ?_
      refine w_t (pc := 56) (e_s := (7, 1, 0, 1, 0, .null, [])) (y_s := (57, [some (.ref _), some (.int _), some (.int _), none], [.int (_ - _)], _)) rfl (u_ rfl) ?_
      refine w_t (pc := 57) (e_s := (4, 1, 3, 0, 0, .null, [])) (y_s := (58, [some (.ref _), some (.int _), some (.int _), some (.int _)], [], _)) rfl (u_ rfl) ?_
      refine w_t (pc := 58) (e_s := (3, 1, 0, 0, 0, .null, [])) (y_s := (59, [some (.ref _), some (.int _), some (.int _), some (.int _)], [.ref _], _)) rfl (u_ rfl) ?_
      refine w20 (pc := 59) (len_s := 3) rfl ?_
      refine wq2 (pc := 62) (len_s := 3) rfl rfl (fun c46_s => ?_) (fun c46_s => ?_)
      · replace t_s := t_s.1 c46_s
        refine w_t (pc := 148) (e_s := (1, 1, 3, 0, 0, .null, [])) (y_s := (149, [some (.ref _), some (.int _), some (.int _), some (.int _)], [.int _], _)) rfl (u_ rfl) ?_
        refine wq3 (pc := 149) (len_s := 3) rfl rfl (fun c47_s => ?_) (fun c47_s => ?_)
        · replace t_s := t_s.1 c47_s
          refine w_t (pc := 152) (e_s := (0, 1, 0, 0, 0, .int 0, [])) (y_s := (153, [some (.ref _), some (.int _), some (.int _), some (.int _)], [.int _], _)) rfl (u_ rfl) ?_
          refine w_t (pc := 153) (e_s := (17, 3, 168, 0, 0, .null, [])) (y_s := (168, [some (.ref _), some (.int _), some (.int _), some (.int _)], [.int _], _)) rfl (u_ rfl) ?_
          exact wrI (pc := 168) (len_s := 1) rfl hk t_s
        · replace t_s := t_s.2 c47_s
          refine w_t (pc := 156) (e_s := (1, 1, 3, 0, 0, .null, [])) (y_s := (157, [some (.ref _), some (.int _), some (.int _), some (.int _)], [.int _], _)) rfl (u_ rfl) ?_
          refine w_t (pc := 157) (e_s := (0, 2, 0, 0, 0, .int 9, [])) (y_s := (159, [some (.ref _), some (.int _), some (.int _), some (.int _)], [.int _, .int _], _)) rfl (u_ rfl) ?_
          refine wi5 (pc := 159) (len_s := 3) (Y := 9) rfl rfl (by decide) (fun c48_s => ?_) (fun c48_s => ?_)
          · replace t_s := t_s.1 c48_s
            refine w_t (pc := 162) (e_s := (0, 2, 0, 0, 0, .int 9, [])) (y_s := (164, [some (.ref _), some (.int _), some (.int _), some (.int _)], [.int _], _)) rfl (u_ rfl) ?_
            refine w_t (pc := 164) (e_s := (17, 3, 168, 0, 0, .null, [])) (y_s := (168, [some (.ref _), some (.int _), some (.int _), some (.int _)], [.int _], _)) rfl (u_ rfl) ?_
            exact wrI (pc := 168) (len_s := 1) rfl hk t_s
          · replace t_s := t_s.2 c48_s
            refine w_t (pc := 167) (e_s := (1, 1, 3, 0, 0, .null, [])) (y_s := (168, [some (.ref _), some (.int _), some (.int _), some (.int _)], [.int _], _)) rfl (u_ rfl) ?_
            exact wrI (pc := 168) (len_s := 1) rfl hk t_s
      · replace t_s := t_s.2 c46_s
        refine w_t (pc := 65) (e_s := (3, 1, 0, 0, 0, .null, [])) (y_s := (66, [some (.ref _), some (.int _), some (.int _), some (.int _)], [.ref _], _)) rfl (u_ rfl) ?_
        refine w20r (pc := 66) (len_s := 3) (q_s := 111) rfl (krq hk rfl) ?_
        refine w_t (pc := 69) (e_s := (0, 1, 0, 0, 0, .int 0, [])) (y_s := (70, [some (.ref _), some (.int _), some (.int _), some (.int _)], [.int _, .ref _], _)) rfl (u_ rfl) ?_
        refine w_t (pc := 70) (e_s := (3, 1, 0, 0, 0, .null, [])) (y_s := (71, [some (.ref _), some (.int _), some (.int _), some (.int _)], [.ref _, .int _, .ref _], _)) rfl (u_ rfl) ?_
        refine w20r (pc := 71) (len_s := 3) (q_s := 112) rfl (krq hk rfl) ?_
        refine w_t (pc := 74) (e_s := (0, 1, 0, 0, 0, .int 0, [])) (y_s := (75, [some (.ref _), some (.int _), some (.int _), some (.int _)], [.int _, .ref _, .int _, .ref _], _)) rfl (u_ rfl) ?_
        refine w22 (pc := 75) (len_s := 1) rfl (hk.1 112 0 7 rfl rfl) (fun c49 => ?_)
        refine w25 (pc := 76) (len_s := 1) rfl (hk.1 111 0 6 rfl rfl) (fun c50 => ?_)
        refine w_t (pc := 77) (e_s := (3, 1, 0, 0, 0, .null, [])) (y_s := (78, [some (.ref _), some (.int _), some (.int _), some (.int _)], [.ref _], _)) rfl (u_ rfl) ?_
        refine w20r (pc := 78) (len_s := 3) (q_s := 111) rfl (krq hk rfl) ?_
        refine w_t (pc := 81) (e_s := (0, 1, 0, 0, 0, .int 1, [])) (y_s := (82, [some (.ref _), some (.int _), some (.int _), some (.int _)], [.int _, .ref _], _)) rfl (u_ rfl) ?_
        refine w_t (pc := 82) (e_s := (3, 1, 0, 0, 0, .null, [])) (y_s := (83, [some (.ref _), some (.int _), some (.int _), some (.int _)], [.ref _, .int _, .ref _], _)) rfl (u_ rfl) ?_
        refine w20r (pc := 83) (len_s := 3) (q_s := 112) rfl (krq hk rfl) ?_
        refine w_t (pc := 86) (e_s := (0, 1, 0, 0, 0, .int 2, [])) (y_s := (87, [some (.ref _), some (.int _), some (.int _), some (.int _)], [.int _, .ref _, .int _, .ref _], _)) rfl (u_ rfl) ?_
        refine w22 (pc := 87) (len_s := 1) rfl (hk.1 112 0 7 rfl rfl) (fun c51_s => ?_)
        refine w25 (pc := 88) (len_s := 1) rfl (hk.1 111 0 6 rfl rfl) (fun c52_s => ?_)
        refine w_t (pc := 89) (e_s := (3, 1, 0, 0, 0, .null, [])) (y_s := (90, [some (.ref _), some (.int _), some (.int _), some (.int _)], [.ref _], _)) rfl (u_ rfl) ?_
        refine w20r (pc := 90) (len_s := 3) (q_s := 111) rfl (krq hk rfl) ?_
        refine w_t (pc := 93) (e_s := (0, 1, 0, 0, 0, .int 2, [])) (y_s := (94, [some (.ref _), some (.int _), some (.int _), some (.int _)], [.int _, .ref _], _)) rfl (u_ rfl) ?_
        refine w_t (pc := 94) (e_s := (3, 1, 0, 0, 0, .null, [])) (y_s := (95, [some (.ref _), some (.int _), some (.int _), some (.int _)], [.ref _, .int _, .ref _], _)) rfl (u_ rfl) ?_
        refine w20r (pc := 95) (len_s := 3) (q_s := 112) rfl (krq hk rfl) ?_
        refine w_t (pc := 98) (e_s := (0, 1, 0, 0, 0, .int 3, [])) (y_s := (99, [some (.ref _), some (.int _), some (.int _), some (.int _)], [.int _, .ref _, .int _, .ref _], _)) rfl (u_ rfl) ?_
        refine w22 (pc := 99) (len_s := 1) rfl (hk.1 112 0 7 rfl rfl) (fun c53 => ?_)
        refine w25 (pc := 100) (len_s := 1) rfl (hk.1 111 0 6 rfl rfl) (fun c54 => ?_)
        refine w_t (pc := 101) (e_s := (3, 1, 0, 0, 0, .null, [])) (y_s := (102, [some (.ref _), some (.int _), some (.int _), some (.int _)], [.ref _], _)) rfl (u_ rfl) ?_
        refine w20r (pc := 102) (len_s := 3) (q_s := 111) rfl (krq hk rfl) ?_
        refine w_t (pc := 105) (e_s := (0, 1, 0, 0, 0, .int 3, [])) (y_s := (106, [some (.ref _), some (.int _), some (.int _), some (.int _)], [.int _, .ref _], _)) rfl (u_ rfl) ?_
        refine w_t (pc := 106) (e_s := (1, 1, 2, 0, 0, .null, [])) (y_s := (107, [some (.ref _), some (.int _), some (.int _), some (.int _)], [.int _, .int _, .ref _], _)) rfl (u_ rfl) ?_
        refine w25 (pc := 107) (len_s := 1) rfl (hk.1 111 0 6 rfl rfl) (fun c55 => ?_)
        refine w_t (pc := 108) (e_s := (3, 1, 0, 0, 0, .null, [])) (y_s := (109, [some (.ref _), some (.int _), some (.int _), some (.int _)], [.ref _], _)) rfl (u_ rfl) ?_
        refine w20r (pc := 109) (len_s := 3) (q_s := 111) rfl (krq hk rfl) ?_
        refine w_t (pc := 112) (e_s := (0, 1, 0, 0, 0, .int 4, [])) (y_s := (113, [some (.ref _), some (.int _), some (.int _), some (.int _)], [.int _, .ref _], _)) rfl (u_ rfl) ?_
        refine w_t (pc := 113) (e_s := (3, 1, 0, 0, 0, .null, [])) (y_s := (114, [some (.ref _), some (.int _), some (.int _), some (.int _)], [.ref _, .int _, .ref _], _)) rfl (u_ rfl) ?_
        refine w20r (pc := 114) (len_s := 3) (q_s := 103) rfl (krq hk rfl) ?_
        refine w_t (pc := 117) (e_s := (0, 2, 0, 0, 0, .int 80, [])) (y_s := (119, [some (.ref _), some (.int _), some (.int _), some (.int _)], [.int _, .ref _, .int _, .ref _], _)) rfl (u_ rfl) ?_
        refine w_t (pc := 119) (e_s := (1, 1, 1, 0, 0, .null, [])) (y_s := (120, [some (.ref _), some (.int _), some (.int _), some (.int _)], [.int _, .int _, .ref _, .int _, .ref _], _)) rfl (u_ rfl) ?_
        refine w_t (pc := 120) (e_s := (7, 1, 0, 0, 0, .null, [])) (y_s := (121, [some (.ref _), some (.int _), some (.int _), some (.int _)], [.int (_ + _), .ref _, .int _, .ref _], _)) rfl (u_ rfl) ?_
        refine w22 (pc := 121) (len_s := 1) rfl (hk.1 103 0 104 rfl rfl) (fun c56 => ?_)
        replace t_s := t_s c56
        refine w25 (pc := 122) (len_s := 1) rfl (hk.1 111 0 6 rfl rfl) (fun c57 => ?_)
        refine w_t (pc := 123) (e_s := (3, 1, 0, 0, 0, .null, [])) (y_s := (124, [some (.ref _), some (.int _), some (.int _), some (.int _)], [.ref _], _)) rfl (u_ rfl) ?_
        refine w20r (pc := 124) (len_s := 3) (q_s := 111) rfl (krq hk rfl) ?_
        refine w_t (pc := 127) (e_s := (0, 1, 0, 0, 0, .int 5, [])) (y_s := (128, [some (.ref _), some (.int _), some (.int _), some (.int _)], [.int _, .ref _], _)) rfl (u_ rfl) ?_
        refine w_t (pc := 128) (e_s := (3, 1, 0, 0, 0, .null, [])) (y_s := (129, [some (.ref _), some (.int _), some (.int _), some (.int _)], [.ref _, .int _, .ref _], _)) rfl (u_ rfl) ?_
        refine w20r (pc := 129) (len_s := 3) (q_s := 103) rfl (krq hk rfl) ?_
        refine w_t (pc := 132) (e_s := (0, 2, 0, 0, 0, .int 92, [])) (y_s := (134, [some (.ref _), some (.int _), some (.int _), some (.int _)], [.int _, .ref _, .int _, .ref _], _)) rfl (u_ rfl) ?_
        refine w_t (pc := 134) (e_s := (1, 1, 1, 0, 0, .null, [])) (y_s := (135, [some (.ref _), some (.int _), some (.int _), some (.int _)], [.int _, .int _, .ref _, .int _, .ref _], _)) rfl (u_ rfl) ?_
        refine w_t (pc := 135) (e_s := (7, 1, 0, 0, 0, .null, [])) (y_s := (136, [some (.ref _), some (.int _), some (.int _), some (.int _)], [.int (_ + _), .ref _, .int _, .ref _], _)) rfl (u_ rfl) ?_
        refine w22 (pc := 136) (len_s := 1) rfl (hk.1 103 0 104 rfl rfl) (fun c58 => ?_)
        refine w25 (pc := 137) (len_s := 1) rfl (hk.1 111 0 6 rfl rfl) (fun c59 => ?_)
        refine w_t (pc := 138) (e_s := (3, 1, 0, 0, 0, .null, [])) (y_s := (139, [some (.ref _), some (.int _), some (.int _), some (.int _)], [.ref _], _)) rfl (u_ rfl) ?_
        refine w_t (pc := 139) (e_s := (0, 1, 0, 0, 0, .int 0, [])) (y_s := (140, [some (.ref _), some (.int _), some (.int _), some (.int _)], [.int _, .ref _], _)) rfl (u_ rfl) ?_
        refine w_t (pc := 140) (e_s := (3, 1, 0, 0, 0, .null, [])) (y_s := (141, [some (.ref _), some (.int _), some (.int _), some (.int _)], [.ref _, .int _, .ref _], _)) rfl (u_ rfl) ?_
        refine w20 (pc := 141) (len_s := 3) rfl ?_
        refine wcI (pc := 144) (len_s := 3) rfl rfl (l := [some (.ref _), some (.int _), some (.int _), none, none, none, none, none]) rfl (wmI t_s (fun v60 h60 hk t_s => ?_))
        replace t_s := t_s hk
        refine w_t (pc := 147) (e_s := (4, 1, 3, 0, 0, .null, [])) (y_s := (148, [some (.ref _), some (.int _), some (.int _), some (.int _)], [], _)) rfl (u_ rfl) ?_
        refine w_t (pc := 148) (e_s := (1, 1, 3, 0, 0, .null, [])) (y_s := (149, [some (.ref _), some (.int _), some (.int _), some (.int _)], [.int _], _)) rfl (u_ rfl) ?_
        refine wq3 (pc := 149) (len_s := 3) rfl rfl (fun c61 => ?_) (fun c61 => ?_)
        · replace t_s := t_s.1 c61
          refine w_t (pc := 152) (e_s := (0, 1, 0, 0, 0, .int 0, [])) (y_s := (153, [some (.ref _), some (.int _), some (.int _), some (.int _)], [.int _], _)) rfl (u_ rfl) ?_
          refine w_t (pc := 153) (e_s := (17, 3, 168, 0, 0, .null, [])) (y_s := (168, [some (.ref _), some (.int _), some (.int _), some (.int _)], [.int _], _)) rfl (u_ rfl) ?_
          exact wrI (pc := 168) (len_s := 1) rfl hk t_s
        · replace t_s := t_s.2 c61
          refine w_t (pc := 156) (e_s := (1, 1, 3, 0, 0, .null, [])) (y_s := (157, [some (.ref _), some (.int _), some (.int _), some (.int _)], [.int _], _)) rfl (u_ rfl) ?_
          refine w_t (pc := 157) (e_s := (0, 2, 0, 0, 0, .int 9, [])) (y_s := (159, [some (.ref _), some (.int _), some (.int _), some (.int _)], [.int _, .int _], _)) rfl (u_ rfl) ?_
          refine wi5 (pc := 159) (len_s := 3) (Y := 9) rfl rfl (by decide) (fun c62 => ?_) (fun c62 => ?_)
          · replace t_s := t_s.1 c62
            refine w_t (pc := 162) (e_s := (0, 2, 0, 0, 0, .int 9, [])) (y_s := (164, [some (.ref _), some (.int _), some (.int _), some (.int _)], [.int _], _)) rfl (u_ rfl) ?_
            refine w_t (pc := 164) (e_s := (17, 3, 168, 0, 0, .null, [])) (y_s := (168, [some (.ref _), some (.int _), some (.int _), some (.int _)], [.int _], _)) rfl (u_ rfl) ?_
            exact wrI (pc := 168) (len_s := 1) rfl hk t_s
          · replace t_s := t_s.2 c62
            refine w_t (pc := 167) (e_s := (1, 1, 3, 0, 0, .null, [])) (y_s := (168, [some (.ref _), some (.int _), some (.int _), some (.int _)], [.int _], _)) rfl (u_ rfl) ?_
            exact wrI (pc := 168) (len_s := 1) rfl hk t_s
/-- ColdShodModel.goesRoad(I)V, from 0 on -/
theorem sg_183_0 {F_s : Nat} {x1_s : Int32} {h_s : zH} {K_s : zH → Prop} (hk : hKn h_s) (t_s : ((h_s.2.1 112 2).toInt < 99 → (zix (80 + x1_s) < 104 → ((9 - ((h_s.2.1 112 2) / 11)).toInt < (h_s.2.1 103 (zix (80 + x1_s))).toInt → K_s (h_s.1, zup (zup h_s.2.1 102 22 0) 102 23 0, h_s.2.2.1, h_s.2.2.2)) ∧ (¬ (9 - ((h_s.2.1 112 2) / 11)).toInt < (h_s.2.1 103 (zix (80 + x1_s))).toInt → wF F_s 183 (18, [some (.ref 102), some (.int x1_s), none], [], (h_s.1, zup (zup h_s.2.1 102 22 0) 102 23 0, h_s.2.2.1, h_s.2.2.2)) (gV K_s)))) ∧ (¬ (h_s.2.1 112 2).toInt < 99 → K_s (h_s.1, zup (zup h_s.2.1 102 22 0) 102 23 0, h_s.2.2.1, h_s.2.2.2))) : wF (F_s + 1) 183 (0, [some (.ref 102), some (.int x1_s), none], [], h_s) (gV K_s) := by
  refine w_0 (pc := 0) (e_s := (3, 1, 0, 0, 0, .null, [])) (y_s := (1, [some (.ref _), some (.int _), none], [.ref _], _)) rfl (u_ rfl) ?_
  refine w_t (pc := 1) (e_s := (0, 1, 0, 0, 0, .int 0, [])) (y_s := (2, [some (.ref _), some (.int _), none], [.int _, .ref _], _)) rfl (u_ rfl) ?_
  refine w21 (pc := 2) (len_s := 3) rfl ?_
  refine w_t (pc := 5) (e_s := (3, 1, 0, 0, 0, .null, [])) (y_s := (6, [some (.ref _), some (.int _), none], [.ref _], _)) rfl (u_ rfl) ?_
  refine w_t (pc := 6) (e_s := (0, 1, 0, 0, 0, .int 0, [])) (y_s := (7, [some (.ref _), some (.int _), none], [.int _, .ref _], _)) rfl (u_ rfl) ?_
  refine w21b (pc := 7) (len_s := 3) rfl ?_
  refine w_t (pc := 10) (e_s := (3, 1, 0, 0, 0, .null, [])) (y_s := (11, [some (.ref _), some (.int _), none], [.ref _], _)) rfl (u_ rfl) ?_
  refine w_t (pc := 11) (e_s := (1, 1, 1, 0, 0, .null, [])) (y_s := (12, [some (.ref _), some (.int _), none], [.int _, .ref _], _)) rfl (u_ rfl) ?_
  refine wcI (pc := 12) (len_s := 3) rfl rfl (l := [some (.ref _), some (.int _)]) rfl ?_
  refine w_t (pc := 0) (e_s := (3, 1, 0, 0, 0, .null, [])) (y_s := (1, [some (.ref _), some (.int _)], [.ref _], _)) rfl (u_ rfl) ?_
  refine w20r (pc := 1) (len_s := 3) (q_s := 112) rfl (krq hk rfl) ?_
  refine w_t (pc := 4) (e_s := (0, 1, 0, 0, 0, .int 2, [])) (y_s := (5, [some (.ref _), some (.int _)], [.int _, .ref _], _)) rfl (u_ rfl) ?_
  refine w22 (pc := 5) (len_s := 1) rfl (hk.1 112 0 7 rfl rfl) (fun c1_s => ?_)
  refine w_t (pc := 6) (e_s := (0, 2, 0, 0, 0, .int 99, [])) (y_s := (8, [some (.ref _), some (.int _)], [.int _, .int _], _)) rfl (u_ rfl) ?_
  refine wi3 (pc := 8) (len_s := 3) (Y := 99) rfl rfl (by decide) (fun c2_s => ?_) (fun c2_s => ?_)
  · replace t_s := t_s.1 c2_s
    refine w_t (pc := 11) (e_s := (3, 1, 0, 0, 0, .null, [])) (y_s := (12, [some (.ref _), some (.int _)], [.ref _], _)) rfl (u_ rfl) ?_
    refine w20r (pc := 12) (len_s := 3) (q_s := 103) rfl (krq hk rfl) ?_
    refine w_t (pc := 15) (e_s := (0, 2, 0, 0, 0, .int 80, [])) (y_s := (17, [some (.ref _), some (.int _)], [.int _, .ref _], _)) rfl (u_ rfl) ?_
    refine w_t (pc := 17) (e_s := (1, 1, 1, 0, 0, .null, [])) (y_s := (18, [some (.ref _), some (.int _)], [.int _, .int _, .ref _], _)) rfl (u_ rfl) ?_
    refine w_t (pc := 18) (e_s := (7, 1, 0, 0, 0, .null, [])) (y_s := (19, [some (.ref _), some (.int _)], [.int (_ + _), .ref _], _)) rfl (u_ rfl) ?_
    refine w22 (pc := 19) (len_s := 1) rfl (hk.1 103 0 104 rfl rfl) (fun c3_s => ?_)
    replace t_s := t_s c3_s
    refine w_t (pc := 20) (e_s := (3, 1, 0, 0, 0, .null, [])) (y_s := (21, [some (.ref _), some (.int _)], [.ref _, .int _], _)) rfl (u_ rfl) ?_
    refine w20r (pc := 21) (len_s := 3) (q_s := 112) rfl (krq hk rfl) ?_
    refine w_t (pc := 24) (e_s := (0, 1, 0, 0, 0, .int 2, [])) (y_s := (25, [some (.ref _), some (.int _)], [.int _, .ref _, .int _], _)) rfl (u_ rfl) ?_
    refine w22 (pc := 25) (len_s := 1) rfl (hk.1 112 0 7 rfl rfl) (fun c4_s => ?_)
    refine wcI (pc := 26) (len_s := 3) rfl rfl (l := [some (.int _)]) rfl ?_
    refine w_t (pc := 0) (e_s := (0, 2, 0, 0, 0, .int 9, [])) (y_s := (2, [some (.int _)], [.int _], _)) rfl (u_ rfl) ?_
    refine w_t (pc := 2) (e_s := (1, 1, 0, 0, 0, .null, [])) (y_s := (3, [some (.int _)], [.int _, .int _], _)) rfl (u_ rfl) ?_
    refine w_t (pc := 3) (e_s := (0, 2, 0, 0, 0, .int 11, [])) (y_s := (5, [some (.int _)], [.int _, .int _, .int _], _)) rfl (u_ rfl) ?_
    refine w8 (pc := 5) (len_s := 1) rfl ?_
    refine w_t (pc := 6) (e_s := (7, 1, 0, 1, 0, .null, [])) (y_s := (7, [some (.int _)], [.int (_ - _)], _)) rfl (u_ rfl) ?_
    refine wrI (pc := 7) (len_s := 1) rfl hk ?_
    show wF _ 182 (29, [some (.ref _), some (.int _)], [.int _, .int _], _) _
    refine wi4 (pc := 29) (len_s := 3) rfl rfl rfl (fun c5_s => ?_) (fun c5_s => ?_)
    · replace t_s := t_s.1 c5_s
      refine w_t (pc := 36) (e_s := (0, 1, 0, 0, 0, .int 0, [])) (y_s := (37, [some (.ref _), some (.int _)], [.int _], _)) rfl (u_ rfl) ?_
      refine wrI (pc := 37) (len_s := 1) rfl hk ?_
      show wF _ 183 (15, [some (.ref _), some (.int _), none], [.int _], _) _
      refine w_t (pc := 15) (e_s := (15, 3, 144, 0, 0, .null, [])) (y_s := (144, [some (.ref _), some (.int _), none], [], _)) rfl (u_ rfl) ?_
      exact wrV (pc := 144) (len_s := 1) rfl hk t_s
    · replace t_s := t_s.2 c5_s
      refine w_t (pc := 32) (e_s := (0, 1, 0, 0, 0, .int 1, [])) (y_s := (33, [some (.ref _), some (.int _)], [.int _], _)) rfl (u_ rfl) ?_
      refine w_t (pc := 33) (e_s := (17, 3, 37, 0, 0, .null, [])) (y_s := (37, [some (.ref _), some (.int _)], [.int _], _)) rfl (u_ rfl) ?_
      refine wrI (pc := 37) (len_s := 1) rfl hk ?_
      show wF _ 183 (15, [some (.ref _), some (.int _), none], [.int _], _) _
      refine w_t (pc := 15) (e_s := (15, 3, 144, 0, 0, .null, [])) (y_s := (18, [some (.ref _), some (.int _), none], [], _)) rfl (u_ rfl) ?_
      exact t_s
  · replace t_s := t_s.2 c2_s
    refine w_t (pc := 36) (e_s := (0, 1, 0, 0, 0, .int 0, [])) (y_s := (37, [some (.ref _), some (.int _)], [.int _], _)) rfl (u_ rfl) ?_
    refine wrI (pc := 37) (len_s := 1) rfl hk ?_
    show wF _ 183 (15, [some (.ref _), some (.int _), none], [.int _], _) _
    refine w_t (pc := 15) (e_s := (15, 3, 144, 0, 0, .null, [])) (y_s := (144, [some (.ref _), some (.int _), none], [], _)) rfl (u_ rfl) ?_
    exact wrV (pc := 144) (len_s := 1) rfl hk t_s
/-- ColdShodModel.goesRoad(I)V, from 18 on -/
theorem sg_183_18 {F_s : Nat} {x1_s : Int32} {l2 : Option Value} {h_s : zH} {K_s : zH → Prop} (hk : hKn h_s) (t_s : (zix (68 + x1_s) < 104 → ((h_s.2.1 102 22).toInt < (h_s.2.1 103 (zix (68 + x1_s))).toInt → (((h_s.2.1 112 2).toInt < 99 → wF F_s 180 (0, [some (.ref 102), some (.int x1_s), none, none], [], h_s) (gI (fun v6 h6 => hKn h6 → (99 < ((h_s.2.1 112 2) + v6).toInt → wF F_s 183 (18, [some (.ref 102), some (.int x1_s), some (.int ((h_s.2.1 112 2) + v6))], [], (h6.1, zup (zup h6.2.1 112 2 99) 102 22 ((h6.2.1 102 22) + 1), h6.2.2.1, h6.2.2.2)) (gV K_s)) ∧ (¬ 99 < ((h_s.2.1 112 2) + v6).toInt → wF F_s 183 (18, [some (.ref 102), some (.int x1_s), some (.int ((h_s.2.1 112 2) + v6))], [], (h6.1, zup (zup h6.2.1 112 2 ((h_s.2.1 112 2) + v6)) 102 22 ((h6.2.1 102 22) + 1), h6.2.2.1, h6.2.2.2)) (gV K_s))))) ∧ (¬ (h_s.2.1 112 2).toInt < 99 → (((h_s.2.1 102 22).toInt = (h_s.2.1 103 (zix (68 + x1_s))).toInt → ((0 < (h_s.2.1 112 3).toInt → K_s (h_s.1, zup (zup h_s.2.1 102 23 1) 112 3 ((h_s.2.1 112 3) - 1), h_s.2.2.1, h_s.2.2.2)) ∧ (¬ 0 < (h_s.2.1 112 3).toInt → K_s (h_s.1, zup (zup h_s.2.1 102 23 1) 112 3 ((h_s.2.1 112 3) - 0), h_s.2.2.1, h_s.2.2.2)))) ∧ (¬ (h_s.2.1 102 22).toInt = (h_s.2.1 103 (zix (68 + x1_s))).toInt → K_s (h_s.1, zup (zup h_s.2.1 102 23 0) 112 3 ((h_s.2.1 112 3) - 0), h_s.2.2.1, h_s.2.2.2)))))) ∧ (¬ (h_s.2.1 102 22).toInt < (h_s.2.1 103 (zix (68 + x1_s))).toInt → (((h_s.2.1 102 22).toInt = (h_s.2.1 103 (zix (68 + x1_s))).toInt → ((0 < (h_s.2.1 112 3).toInt → K_s (h_s.1, zup (zup h_s.2.1 102 23 1) 112 3 ((h_s.2.1 112 3) - 1), h_s.2.2.1, h_s.2.2.2)) ∧ (¬ 0 < (h_s.2.1 112 3).toInt → K_s (h_s.1, zup (zup h_s.2.1 102 23 1) 112 3 ((h_s.2.1 112 3) - 0), h_s.2.2.1, h_s.2.2.2)))) ∧ (¬ (h_s.2.1 102 22).toInt = (h_s.2.1 103 (zix (68 + x1_s))).toInt → K_s (h_s.1, zup (zup h_s.2.1 102 23 0) 112 3 ((h_s.2.1 112 3) - 0), h_s.2.2.1, h_s.2.2.2)))))) : wF (F_s + 1) 183 (18, [some (.ref 102), some (.int x1_s), l2], [], h_s) (gV K_s) := by
  refine w_0 (pc := 18) (e_s := (3, 1, 0, 0, 0, .null, [])) (y_s := (19, [some (.ref _), some (.int _), _], [.ref _], _)) rfl (u_ rfl) ?_
  refine w20 (pc := 19) (len_s := 3) rfl ?_
  refine w_t (pc := 22) (e_s := (3, 1, 0, 0, 0, .null, [])) (y_s := (23, [some (.ref _), some (.int _), _], [.ref _, .int _], _)) rfl (u_ rfl) ?_
  refine w20r (pc := 23) (len_s := 3) (q_s := 103) rfl (krq hk rfl) ?_
  refine w_t (pc := 26) (e_s := (0, 2, 0, 0, 0, .int 68, [])) (y_s := (28, [some (.ref _), some (.int _), _], [.int _, .ref _, .int _], _)) rfl (u_ rfl) ?_
  refine w_t (pc := 28) (e_s := (1, 1, 1, 0, 0, .null, [])) (y_s := (29, [some (.ref _), some (.int _), _], [.int _, .int _, .ref _, .int _], _)) rfl (u_ rfl) ?_
  refine w_t (pc := 29) (e_s := (7, 1, 0, 0, 0, .null, [])) (y_s := (30, [some (.ref _), some (.int _), _], [.int (_ + _), .ref _, .int _], _)) rfl (u_ rfl) ?_
  refine w22 (pc := 30) (len_s := 1) rfl (hk.1 103 0 104 rfl rfl) (fun c1_s => ?_)
  replace t_s := t_s c1_s
  refine wi3 (pc := 31) (len_s := 3) rfl rfl rfl (fun c2_s => ?_) (fun c2_s => ?_)
  · replace t_s := t_s.1 c2_s
    refine w_t (pc := 34) (e_s := (3, 1, 0, 0, 0, .null, [])) (y_s := (35, [some (.ref _), some (.int _), _], [.ref _], _)) rfl (u_ rfl) ?_
    refine w20r (pc := 35) (len_s := 3) (q_s := 112) rfl (krq hk rfl) ?_
    refine w_t (pc := 38) (e_s := (0, 1, 0, 0, 0, .int 2, [])) (y_s := (39, [some (.ref _), some (.int _), _], [.int _, .ref _], _)) rfl (u_ rfl) ?_
    refine w22 (pc := 39) (len_s := 1) rfl (hk.1 112 0 7 rfl rfl) (fun c3_s => ?_)
    refine w_t (pc := 40) (e_s := (0, 2, 0, 0, 0, .int 99, [])) (y_s := (42, [some (.ref _), some (.int _), _], [.int _, .int _], _)) rfl (u_ rfl) ?_
    refine wi3 (pc := 42) (len_s := 3) (Y := 99) rfl rfl (by decide) (fun c4_s => ?_) (fun c4_s => ?_)
    · replace t_s := t_s.1 c4_s
      refine w_t (pc := 45) (e_s := (3, 1, 0, 0, 0, .null, [])) (y_s := (46, [some (.ref _), some (.int _), _], [.ref _], _)) rfl (u_ rfl) ?_
      refine w20r (pc := 46) (len_s := 3) (q_s := 112) rfl (krq hk rfl) ?_
      refine w_t (pc := 49) (e_s := (0, 1, 0, 0, 0, .int 2, [])) (y_s := (50, [some (.ref _), some (.int _), _], [.int _, .ref _], _)) rfl (u_ rfl) ?_
      refine w22 (pc := 50) (len_s := 1) rfl (hk.1 112 0 7 rfl rfl) (fun c5_s => ?_)
      refine w_t (pc := 51) (e_s := (3, 1, 0, 0, 0, .null, [])) (y_s := (52, [some (.ref _), some (.int _), _], [.ref _, .int _], _)) rfl (u_ rfl) ?_
      refine w_t (pc := 52) (e_s := (1, 1, 1, 0, 0, .null, [])) (y_s := (53, [some (.ref _), some (.int _), _], [.int _, .ref _, .int _], _)) rfl (u_ rfl) ?_
      refine wcI (pc := 53) (len_s := 3) rfl rfl (l := [some (.ref _), some (.int _), none, none]) rfl (wmI t_s (fun v6 h6 hk t_s => ?_))
      replace t_s := t_s hk
      refine w_t (pc := 56) (e_s := (7, 1, 0, 0, 0, .null, [])) (y_s := (57, [some (.ref _), some (.int _), _], [.int (_ + _)], _)) rfl (u_ rfl) ?_
      refine w_t (pc := 57) (e_s := (4, 1, 2, 0, 0, .null, [])) (y_s := (58, [some (.ref _), some (.int _), some (.int _)], [], _)) rfl (u_ rfl) ?_
      refine w_t (pc := 58) (e_s := (3, 1, 0, 0, 0, .null, [])) (y_s := (59, [some (.ref _), some (.int _), some (.int _)], [.ref _], _)) rfl (u_ rfl) ?_
      refine w20r (pc := 59) (len_s := 3) (q_s := 112) rfl (krq hk rfl) ?_
      refine w_t (pc := 62) (e_s := (0, 1, 0, 0, 0, .int 2, [])) (y_s := (63, [some (.ref _), some (.int _), some (.int _)], [.int _, .ref _], _)) rfl (u_ rfl) ?_
      refine w_t (pc := 63) (e_s := (1, 1, 2, 0, 0, .null, [])) (y_s := (64, [some (.ref _), some (.int _), some (.int _)], [.int _, .int _, .ref _], _)) rfl (u_ rfl) ?_
      refine w_t (pc := 64) (e_s := (0, 2, 0, 0, 0, .int 99, [])) (y_s := (66, [some (.ref _), some (.int _), some (.int _)], [.int _, .int _, .int _, .ref _], _)) rfl (u_ rfl) ?_
      refine wi5 (pc := 66) (len_s := 3) (Y := 99) rfl rfl (by decide) (fun c7_s => ?_) (fun c7_s => ?_)
      · replace t_s := t_s.1 c7_s
        refine w_t (pc := 69) (e_s := (0, 2, 0, 0, 0, .int 99, [])) (y_s := (71, [some (.ref _), some (.int _), some (.int _)], [.int _, .int _, .ref _], _)) rfl (u_ rfl) ?_
        refine w_t (pc := 71) (e_s := (17, 3, 75, 0, 0, .null, [])) (y_s := (75, [some (.ref _), some (.int _), some (.int _)], [.int _, .int _, .ref _], _)) rfl (u_ rfl) ?_
        refine w25 (pc := 75) (len_s := 1) rfl (hk.1 112 0 7 rfl rfl) (fun c8_s => ?_)
        refine w_t (pc := 76) (e_s := (3, 1, 0, 0, 0, .null, [])) (y_s := (77, [some (.ref _), some (.int _), some (.int _)], [.ref _], _)) rfl (u_ rfl) ?_
        refine w_t (pc := 77) (e_s := (39, 1, 0, 0, 0, .null, [])) (y_s := (78, [some (.ref _), some (.int _), some (.int _)], [.ref _, .ref _], _)) rfl (u_ rfl) ?_
        refine w20 (pc := 78) (len_s := 3) rfl ?_
        refine w_t (pc := 81) (e_s := (0, 1, 0, 0, 0, .int 1, [])) (y_s := (82, [some (.ref _), some (.int _), some (.int _)], [.int _, .int _, .ref _], _)) rfl (u_ rfl) ?_
        refine w_t (pc := 82) (e_s := (7, 1, 0, 0, 0, .null, [])) (y_s := (83, [some (.ref _), some (.int _), some (.int _)], [.int (_ + _), .ref _], _)) rfl (u_ rfl) ?_
        refine w21 (pc := 83) (len_s := 3) rfl ?_
        refine w_t (pc := 86) (e_s := (17, 3, 18, 0, 0, .null, [])) (y_s := (18, [some (.ref _), some (.int _), some (.int _)], [], _)) rfl (u_ rfl) ?_
        exact t_s
      · replace t_s := t_s.2 c7_s
        refine w_t (pc := 74) (e_s := (1, 1, 2, 0, 0, .null, [])) (y_s := (75, [some (.ref _), some (.int _), some (.int _)], [.int _, .int _, .ref _], _)) rfl (u_ rfl) ?_
        refine w25 (pc := 75) (len_s := 1) rfl (hk.1 112 0 7 rfl rfl) (fun c9_s => ?_)
        refine w_t (pc := 76) (e_s := (3, 1, 0, 0, 0, .null, [])) (y_s := (77, [some (.ref _), some (.int _), some (.int _)], [.ref _], _)) rfl (u_ rfl) ?_
        refine w_t (pc := 77) (e_s := (39, 1, 0, 0, 0, .null, [])) (y_s := (78, [some (.ref _), some (.int _), some (.int _)], [.ref _, .ref _], _)) rfl (u_ rfl) ?_
        refine w20 (pc := 78) (len_s := 3) rfl ?_
        refine w_t (pc := 81) (e_s := (0, 1, 0, 0, 0, .int 1, [])) (y_s := (82, [some (.ref _), some (.int _), some (.int _)], [.int _, .int _, .ref _], _)) rfl (u_ rfl) ?_
        refine w_t (pc := 82) (e_s := (7, 1, 0, 0, 0, .null, [])) (y_s := (83, [some (.ref _), some (.int _), some (.int _)], [.int (_ + _), .ref _], _)) rfl (u_ rfl) ?_
        refine w21 (pc := 83) (len_s := 3) rfl ?_
        refine w_t (pc := 86) (e_s := (17, 3, 18, 0, 0, .null, [])) (y_s := (18, [some (.ref _), some (.int _), some (.int _)], [], _)) rfl (u_ rfl) ?_
        exact t_s
    · replace t_s := t_s.2 c4_s
      refine w_t (pc := 89) (e_s := (3, 1, 0, 0, 0, .null, [])) (y_s := (90, [some (.ref _), some (.int _), _], [.ref _], _)) rfl (u_ rfl) ?_
      refine w_t (pc := 90) (e_s := (3, 1, 0, 0, 0, .null, [])) (y_s := (91, [some (.ref _), some (.int _), _], [.ref _, .ref _], _)) rfl (u_ rfl) ?_
      refine w20 (pc := 91) (len_s := 3) rfl ?_
      refine w_t (pc := 94) (e_s := (3, 1, 0, 0, 0, .null, [])) (y_s := (95, [some (.ref _), some (.int _), _], [.ref _, .int _, .ref _], _)) rfl (u_ rfl) ?_
      refine w20r (pc := 95) (len_s := 3) (q_s := 103) rfl (krq hk rfl) ?_
      refine w_t (pc := 98) (e_s := (0, 2, 0, 0, 0, .int 68, [])) (y_s := (100, [some (.ref _), some (.int _), _], [.int _, .ref _, .int _, .ref _], _)) rfl (u_ rfl) ?_
      refine w_t (pc := 100) (e_s := (1, 1, 1, 0, 0, .null, [])) (y_s := (101, [some (.ref _), some (.int _), _], [.int _, .int _, .ref _, .int _, .ref _], _)) rfl (u_ rfl) ?_
      refine w_t (pc := 101) (e_s := (7, 1, 0, 0, 0, .null, [])) (y_s := (102, [some (.ref _), some (.int _), _], [.int (_ + _), .ref _, .int _, .ref _], _)) rfl (u_ rfl) ?_
      refine w22 (pc := 102) (len_s := 1) rfl (hk.1 103 0 104 rfl rfl) (fun c10_s => ?_)
      refine wi1 (pc := 103) (len_s := 3) rfl rfl rfl (fun c11_s => ?_) (fun c11_s => ?_)
      · replace t_s := t_s.1 c11_s
        refine w_t (pc := 106) (e_s := (0, 1, 0, 0, 0, .int 1, [])) (y_s := (107, [some (.ref _), some (.int _), _], [.int _, .ref _], _)) rfl (u_ rfl) ?_
        refine w_t (pc := 107) (e_s := (17, 3, 111, 0, 0, .null, [])) (y_s := (111, [some (.ref _), some (.int _), _], [.int _, .ref _], _)) rfl (u_ rfl) ?_
        refine w21b (pc := 111) (len_s := 3) rfl ?_
        refine w_t (pc := 114) (e_s := (3, 1, 0, 0, 0, .null, [])) (y_s := (115, [some (.ref _), some (.int _), _], [.ref _], _)) rfl (u_ rfl) ?_
        refine w20r (pc := 115) (len_s := 3) (q_s := 112) rfl (krq hk rfl) ?_
        refine w_t (pc := 118) (e_s := (0, 1, 0, 0, 0, .int 3, [])) (y_s := (119, [some (.ref _), some (.int _), _], [.int _, .ref _], _)) rfl (u_ rfl) ?_
        refine w_t (pc := 119) (e_s := (41, 1, 0, 0, 0, .null, [])) (y_s := (120, [some (.ref _), some (.int _), _], [.int _, .ref _, .int _, .ref _], _)) rfl (u_ rfl) ?_
        refine w22 (pc := 120) (len_s := 1) rfl (hk.1 112 0 7 rfl rfl) (fun c12_s => ?_)
        refine w_t (pc := 121) (e_s := (3, 1, 0, 0, 0, .null, [])) (y_s := (122, [some (.ref _), some (.int _), _], [.ref _, .int _, .int _, .ref _], _)) rfl (u_ rfl) ?_
        refine w20 (pc := 122) (len_s := 3) rfl ?_
        refine w_t (pc := 125) (e_s := (15, 3, 141, 0, 0, .null, [])) (y_s := (128, [some (.ref _), some (.int _), _], [.int _, .int _, .ref _], _)) rfl (u_ rfl) ?_
        refine w_t (pc := 128) (e_s := (3, 1, 0, 0, 0, .null, [])) (y_s := (129, [some (.ref _), some (.int _), _], [.ref _, .int _, .int _, .ref _], _)) rfl (u_ rfl) ?_
        refine w20r (pc := 129) (len_s := 3) (q_s := 112) rfl (krq hk rfl) ?_
        refine w_t (pc := 132) (e_s := (0, 1, 0, 0, 0, .int 3, [])) (y_s := (133, [some (.ref _), some (.int _), _], [.int _, .ref _, .int _, .int _, .ref _], _)) rfl (u_ rfl) ?_
        refine w22 (pc := 133) (len_s := 1) rfl (hk.1 112 0 7 rfl rfl) (fun c13_s => ?_)
        refine wq5 (pc := 134) (len_s := 3) rfl rfl (fun c14_s => ?_) (fun c14_s => ?_)
        · replace t_s := t_s.1 c14_s
          refine w_t (pc := 137) (e_s := (0, 1, 0, 0, 0, .int 1, [])) (y_s := (138, [some (.ref _), some (.int _), _], [.int _, .int _, .int _, .ref _], _)) rfl (u_ rfl) ?_
          refine w_t (pc := 138) (e_s := (17, 3, 142, 0, 0, .null, [])) (y_s := (142, [some (.ref _), some (.int _), _], [.int _, .int _, .int _, .ref _], _)) rfl (u_ rfl) ?_
          refine w_t (pc := 142) (e_s := (7, 1, 0, 1, 0, .null, [])) (y_s := (143, [some (.ref _), some (.int _), _], [.int (_ - _), .int _, .ref _], _)) rfl (u_ rfl) ?_
          refine w25 (pc := 143) (len_s := 1) rfl (hk.1 112 0 7 rfl rfl) (fun c15_s => ?_)
          exact wrV (pc := 144) (len_s := 1) rfl hk t_s
        · replace t_s := t_s.2 c14_s
          refine w_t (pc := 141) (e_s := (0, 1, 0, 0, 0, .int 0, [])) (y_s := (142, [some (.ref _), some (.int _), _], [.int _, .int _, .int _, .ref _], _)) rfl (u_ rfl) ?_
          refine w_t (pc := 142) (e_s := (7, 1, 0, 1, 0, .null, [])) (y_s := (143, [some (.ref _), some (.int _), _], [.int (_ - _), .int _, .ref _], _)) rfl (u_ rfl) ?_
          refine w25 (pc := 143) (len_s := 1) rfl (hk.1 112 0 7 rfl rfl) (fun c16 => ?_)
          exact wrV (pc := 144) (len_s := 1) rfl hk t_s
      · replace t_s := t_s.2 c11_s
        refine w_t (pc := 110) (e_s := (0, 1, 0, 0, 0, .int 0, [])) (y_s := (111, [some (.ref _), some (.int _), _], [.int _, .ref _], _)) rfl (u_ rfl) ?_
        refine w21b (pc := 111) (len_s := 3) rfl ?_
        refine w_t (pc := 114) (e_s := (3, 1, 0, 0, 0, .null, [])) (y_s := (115, [some (.ref _), some (.int _), _], [.ref _], _)) rfl (u_ rfl) ?_
        refine w20r (pc := 115) (len_s := 3) (q_s := 112) rfl (krq hk rfl) ?_
        refine w_t (pc := 118) (e_s := (0, 1, 0, 0, 0, .int 3, [])) (y_s := (119, [some (.ref _), some (.int _), _], [.int _, .ref _], _)) rfl (u_ rfl) ?_
        refine w_t (pc := 119) (e_s := (41, 1, 0, 0, 0, .null, [])) (y_s := (120, [some (.ref _), some (.int _), _], [.int _, .ref _, .int _, .ref _], _)) rfl (u_ rfl) ?_
        refine w22 (pc := 120) (len_s := 1) rfl (hk.1 112 0 7 rfl rfl) (fun c17 => ?_)
        refine w_t (pc := 121) (e_s := (3, 1, 0, 0, 0, .null, [])) (y_s := (122, [some (.ref _), some (.int _), _], [.ref _, .int _, .int _, .ref _], _)) rfl (u_ rfl) ?_
        refine w20 (pc := 122) (len_s := 3) rfl ?_
        refine w_t (pc := 125) (e_s := (15, 3, 141, 0, 0, .null, [])) (y_s := (141, [some (.ref _), some (.int _), _], [.int _, .int _, .ref _], _)) rfl (u_ rfl) ?_
        refine w_t (pc := 141) (e_s := (0, 1, 0, 0, 0, .int 0, [])) (y_s := (142, [some (.ref _), some (.int _), _], [.int _, .int _, .int _, .ref _], _)) rfl (u_ rfl) ?_
        refine w_t (pc := 142) (e_s := (7, 1, 0, 1, 0, .null, [])) (y_s := (143, [some (.ref _), some (.int _), _], [.int (_ - _), .int _, .ref _], _)) rfl (u_ rfl) ?_
        refine w25 (pc := 143) (len_s := 1) rfl (hk.1 112 0 7 rfl rfl) (fun c18_s => ?_)
        exact wrV (pc := 144) (len_s := 1) rfl hk t_s
  · replace t_s := t_s.2 c2_s
    refine w_t (pc := 89) (e_s := (3, 1, 0, 0, 0, .null, [])) (y_s := (90, [some (.ref _), some (.int _), _], [.ref _], _)) rfl (u_ rfl) ?_
    refine w_t (pc := 90) (e_s := (3, 1, 0, 0, 0, .null, [])) (y_s := (91, [some (.ref _), some (.int _), _], [.ref _, .ref _], _)) rfl (u_ rfl) ?_
    refine w20 (pc := 91) (len_s := 3) rfl ?_
    refine w_t (pc := 94) (e_s := (3, 1, 0, 0, 0, .null, [])) (y_s := (95, [some (.ref _), some (.int _), _], [.ref _, .int _, .ref _], _)) rfl (u_ rfl) ?_
    refine w20r (pc := 95) (len_s := 3) (q_s := 103) rfl (krq hk rfl) ?_
    refine w_t (pc := 98) (e_s := (0, 2, 0, 0, 0, .int 68, [])) (y_s := (100, [some (.ref _), some (.int _), _], [.int _, .ref _, .int _, .ref _], _)) rfl (u_ rfl) ?_
    refine w_t (pc := 100) (e_s := (1, 1, 1, 0, 0, .null, [])) (y_s := (101, [some (.ref _), some (.int _), _], [.int _, .int _, .ref _, .int _, .ref _], _)) rfl (u_ rfl) ?_
    refine w_t (pc := 101) (e_s := (7, 1, 0, 0, 0, .null, [])) (y_s := (102, [some (.ref _), some (.int _), _], [.int (_ + _), .ref _, .int _, .ref _], _)) rfl (u_ rfl) ?_
    refine w22 (pc := 102) (len_s := 1) rfl (hk.1 103 0 104 rfl rfl) (fun c19_s => ?_)
    refine wi1 (pc := 103) (len_s := 3) rfl rfl rfl (fun c20_s => ?_) (fun c20_s => ?_)
    · replace t_s := t_s.1 c20_s
      refine w_t (pc := 106) (e_s := (0, 1, 0, 0, 0, .int 1, [])) (y_s := (107, [some (.ref _), some (.int _), _], [.int _, .ref _], _)) rfl (u_ rfl) ?_
      refine w_t (pc := 107) (e_s := (17, 3, 111, 0, 0, .null, [])) (y_s := (111, [some (.ref _), some (.int _), _], [.int _, .ref _], _)) rfl (u_ rfl) ?_
      refine w21b (pc := 111) (len_s := 3) rfl ?_
      refine w_t (pc := 114) (e_s := (3, 1, 0, 0, 0, .null, [])) (y_s := (115, [some (.ref _), some (.int _), _], [.ref _], _)) rfl (u_ rfl) ?_
      refine w20r (pc := 115) (len_s := 3) (q_s := 112) rfl (krq hk rfl) ?_
      refine w_t (pc := 118) (e_s := (0, 1, 0, 0, 0, .int 3, [])) (y_s := (119, [some (.ref _), some (.int _), _], [.int _, .ref _], _)) rfl (u_ rfl) ?_
      refine w_t (pc := 119) (e_s := (41, 1, 0, 0, 0, .null, [])) (y_s := (120, [some (.ref _), some (.int _), _], [.int _, .ref _, .int _, .ref _], _)) rfl (u_ rfl) ?_
      refine w22 (pc := 120) (len_s := 1) rfl (hk.1 112 0 7 rfl rfl) (fun c21 => ?_)
      refine w_t (pc := 121) (e_s := (3, 1, 0, 0, 0, .null, [])) (y_s := (122, [some (.ref _), some (.int _), _], [.ref _, .int _, .int _, .ref _], _)) rfl (u_ rfl) ?_
      refine w20 (pc := 122) (len_s := 3) rfl ?_
      refine w_t (pc := 125) (e_s := (15, 3, 141, 0, 0, .null, [])) (y_s := (128, [some (.ref _), some (.int _), _], [.int _, .int _, .ref _], _)) rfl (u_ rfl) ?_
      refine w_t (pc := 128) (e_s := (3, 1, 0, 0, 0, .null, [])) (y_s := (129, [some (.ref _), some (.int _), _], [.ref _, .int _, .int _, .ref _], _)) rfl (u_ rfl) ?_
      refine w20r (pc := 129) (len_s := 3) (q_s := 112) rfl (krq hk rfl) ?_
      refine w_t (pc := 132) (e_s := (0, 1, 0, 0, 0, .int 3, [])) (y_s := (133, [some (.ref _), some (.int _), _], [.int _, .ref _, .int _, .int _, .ref _], _)) rfl (u_ rfl) ?_
      refine w22 (pc := 133) (len_s := 1) rfl (hk.1 112 0 7 rfl rfl) (fun c22 => ?_)
      refine wq5 (pc := 134) (len_s := 3) rfl rfl (fun c23_s => ?_) (fun c23_s => ?_)
      · replace t_s := t_s.1 c23_s
        refine w_t (pc := 137) (e_s := (0, 1, 0, 0, 0, .int 1, [])) (y_s := (138, [some (.ref _), some (.int _), _], [.int _, .int _, .int _, .ref _], _)) rfl (u_ rfl) ?_
        refine w_t (pc := 138) (e_s := (17, 3, 142, 0, 0, .null, [])) (y_s := (142, [some (.ref _), some (.int _), _], [.int _, .int _, .int _, .ref _], _)) rfl (u_ rfl) ?_
        refine w_t (pc := 142) (e_s := (7, 1, 0, 1, 0, .null, [])) (y_s := (143, [some (.ref _), some (.int _), _], [.int (_ - _), .int _, .ref _], _)) rfl (u_ rfl) ?_
        refine w25 (pc := 143) (len_s := 1) rfl (hk.1 112 0 7 rfl rfl) (fun c24_s => ?_)
        exact wrV (pc := 144) (len_s := 1) rfl hk t_s
      · replace t_s := t_s.2 c23_s
        refine w_t (pc := 141) (e_s := (0, 1, 0, 0, 0, .int 0, [])) (y_s := (142, [some (.ref _), some (.int _), _], [.int _, .int _, .int _, .ref _], _)) rfl (u_ rfl) ?_
        refine w_t (pc := 142) (e_s := (7, 1, 0, 1, 0, .null, [])) (y_s := (143, [some (.ref _), some (.int _), _], [.int (_ - _), .int _, .ref _], _)) rfl (u_ rfl) ?_
        refine w25 (pc := 143) (len_s := 1) rfl (hk.1 112 0 7 rfl rfl) (fun c25_s => ?_)
        exact wrV (pc := 144) (len_s := 1) rfl hk t_s
    · replace t_s := t_s.2 c20_s
      refine w_t (pc := 110) (e_s := (0, 1, 0, 0, 0, .int 0, [])) (y_s := (111, [some (.ref _), some (.int _), _], [.int _, .ref _], _)) rfl (u_ rfl) ?_
      refine w21b (pc := 111) (len_s := 3) rfl ?_
      refine w_t (pc := 114) (e_s := (3, 1, 0, 0, 0, .null, [])) (y_s := (115, [some (.ref _), some (.int _), _], [.ref _], _)) rfl (u_ rfl) ?_
      refine w20r (pc := 115) (len_s := 3) (q_s := 112) rfl (krq hk rfl) ?_
      refine w_t (pc := 118) (e_s := (0, 1, 0, 0, 0, .int 3, [])) (y_s := (119, [some (.ref _), some (.int _), _], [.int _, .ref _], _)) rfl (u_ rfl) ?_
      refine w_t (pc := 119) (e_s := (41, 1, 0, 0, 0, .null, [])) (y_s := (120, [some (.ref _), some (.int _), _], [.int _, .ref _, .int _, .ref _], _)) rfl (u_ rfl) ?_
      refine w22 (pc := 120) (len_s := 1) rfl (hk.1 112 0 7 rfl rfl) (fun c26 => ?_)
      refine w_t (pc := 121) (e_s := (3, 1, 0, 0, 0, .null, [])) (y_s := (122, [some (.ref _), some (.int _), _], [.ref _, .int _, .int _, .ref _], _)) rfl (u_ rfl) ?_
      refine w20 (pc := 122) (len_s := 3) rfl ?_
      refine w_t (pc := 125) (e_s := (15, 3, 141, 0, 0, .null, [])) (y_s := (141, [some (.ref _), some (.int _), _], [.int _, .int _, .ref _], _)) rfl (u_ rfl) ?_
      refine w_t (pc := 141) (e_s := (0, 1, 0, 0, 0, .int 0, [])) (y_s := (142, [some (.ref _), some (.int _), _], [.int _, .int _, .int _, .ref _], _)) rfl (u_ rfl) ?_
      refine w_t (pc := 142) (e_s := (7, 1, 0, 1, 0, .null, [])) (y_s := (143, [some (.ref _), some (.int _), _], [.int (_ - _), .int _, .ref _], _)) rfl (u_ rfl) ?_
      refine w25 (pc := 143) (len_s := 1) rfl (hk.1 112 0 7 rfl rfl) (fun c27_s => ?_)
      exact wrV (pc := 144) (len_s := 1) rfl hk t_s
/-- ColdShod.wears(II)I, from 0 on -/
theorem sg_102_0 {F_s : Nat} {x1_s : Int32} {x2_s : Int32} {h_s : zH} {K_s : Int32 → zH → Prop} (hk : hKn h_s) (t_s : (x1_s.toInt < 0 → K_s (-1) h_s) ∧ (¬ x1_s.toInt < 0 → ((x1_s.toInt < (h_s.2.1 7 7).toInt → ((x2_s.toInt < 0 → K_s (-1) h_s) ∧ (¬ x2_s.toInt < 0 → ((x2_s.toInt < (h_s.2.1 7 8).toInt → (zix x1_s < 8 → (zix x2_s < 12 → wF F_s 23 (0, [some (.ref 7), some (.ref (20 + (zix x1_s))), some (.ref (28 + (zix x2_s)))], [], h_s) (gI (fun v7 h7 => hKn h7 → K_s v7 h7))))) ∧ (¬ x2_s.toInt < (h_s.2.1 7 8).toInt → K_s (-1) h_s))))) ∧ (¬ x1_s.toInt < (h_s.2.1 7 7).toInt → K_s (-1) h_s)))) : wF (F_s + 1) 102 (0, [some (.ref 6), some (.int x1_s), some (.int x2_s)], [], h_s) (gI K_s) := by
  refine w_0 (pc := 0) (e_s := (3, 1, 0, 0, 0, .null, [])) (y_s := (1, [some (.ref _), some (.int _), some (.int _)], [.ref _], _)) rfl (u_ rfl) ?_
  refine w20r (pc := 1) (len_s := 3) (q_s := 7) rfl (krq hk rfl) ?_
  refine w_t (pc := 4) (e_s := (1, 1, 1, 0, 0, .null, [])) (y_s := (5, [some (.ref _), some (.int _), some (.int _)], [.int _, .ref _], _)) rfl (u_ rfl) ?_
  refine wcI (pc := 5) (len_s := 3) rfl rfl (l := [some (.ref _), some (.int _)]) rfl ?_
  refine w_t (pc := 0) (e_s := (1, 1, 1, 0, 0, .null, [])) (y_s := (1, [some (.ref _), some (.int _)], [.int _], _)) rfl (u_ rfl) ?_
  refine wq2 (pc := 1) (len_s := 3) rfl rfl (fun c1_s => ?_) (fun c1_s => ?_)
  · replace t_s := t_s.1 c1_s
    refine w_t (pc := 16) (e_s := (0, 1, 0, 0, 0, .int 0, [])) (y_s := (17, [some (.ref _), some (.int _)], [.int _], _)) rfl (u_ rfl) ?_
    refine wrI (pc := 17) (len_s := 1) rfl hk ?_
    show wF _ 102 (8, [some (.ref _), some (.int _), some (.int _)], [.int _], _) _
    refine w_t (pc := 8) (e_s := (15, 3, 22, 0, 0, .null, [])) (y_s := (22, [some (.ref _), some (.int _), some (.int _)], [], _)) rfl (u_ rfl) ?_
    refine w_t (pc := 22) (e_s := (0, 1, 0, 0, 0, .int (-1), [])) (y_s := (23, [some (.ref _), some (.int _), some (.int _)], [.int _], _)) rfl (u_ rfl) ?_
    exact wrI (pc := 23) (len_s := 1) rfl hk t_s
  · replace t_s := t_s.2 c1_s
    refine w_t (pc := 4) (e_s := (1, 1, 1, 0, 0, .null, [])) (y_s := (5, [some (.ref _), some (.int _)], [.int _], _)) rfl (u_ rfl) ?_
    refine w_t (pc := 5) (e_s := (3, 1, 0, 0, 0, .null, [])) (y_s := (6, [some (.ref _), some (.int _)], [.ref _, .int _], _)) rfl (u_ rfl) ?_
    refine w20 (pc := 6) (len_s := 3) rfl ?_
    refine wi3 (pc := 9) (len_s := 3) rfl rfl rfl (fun c2_s => ?_) (fun c2_s => ?_)
    · replace t_s := t_s.1 c2_s
      refine w_t (pc := 12) (e_s := (0, 1, 0, 0, 0, .int 1, [])) (y_s := (13, [some (.ref _), some (.int _)], [.int _], _)) rfl (u_ rfl) ?_
      refine w_t (pc := 13) (e_s := (17, 3, 17, 0, 0, .null, [])) (y_s := (17, [some (.ref _), some (.int _)], [.int _], _)) rfl (u_ rfl) ?_
      refine wrI (pc := 17) (len_s := 1) rfl hk ?_
      show wF _ 102 (8, [some (.ref _), some (.int _), some (.int _)], [.int _], _) _
      refine w_t (pc := 8) (e_s := (15, 3, 22, 0, 0, .null, [])) (y_s := (11, [some (.ref _), some (.int _), some (.int _)], [], _)) rfl (u_ rfl) ?_
      refine w_t (pc := 11) (e_s := (3, 1, 0, 0, 0, .null, [])) (y_s := (12, [some (.ref _), some (.int _), some (.int _)], [.ref _], _)) rfl (u_ rfl) ?_
      refine w20r (pc := 12) (len_s := 3) (q_s := 7) rfl (krq hk rfl) ?_
      refine w_t (pc := 15) (e_s := (1, 1, 2, 0, 0, .null, [])) (y_s := (16, [some (.ref _), some (.int _), some (.int _)], [.int _, .ref _], _)) rfl (u_ rfl) ?_
      refine wcI (pc := 16) (len_s := 3) rfl rfl (l := [some (.ref _), some (.int _)]) rfl ?_
      refine w_t (pc := 0) (e_s := (1, 1, 1, 0, 0, .null, [])) (y_s := (1, [some (.ref _), some (.int _)], [.int _], _)) rfl (u_ rfl) ?_
      refine wq2 (pc := 1) (len_s := 3) rfl rfl (fun c3_s => ?_) (fun c3_s => ?_)
      · replace t_s := t_s.1 c3_s
        refine w_t (pc := 16) (e_s := (0, 1, 0, 0, 0, .int 0, [])) (y_s := (17, [some (.ref _), some (.int _)], [.int _], _)) rfl (u_ rfl) ?_
        refine wrI (pc := 17) (len_s := 1) rfl hk ?_
        show wF _ 102 (19, [some (.ref _), some (.int _), some (.int _)], [.int _], _) _
        refine w_t (pc := 19) (e_s := (15, 3, 24, 1, 0, .null, [])) (y_s := (22, [some (.ref _), some (.int _), some (.int _)], [], _)) rfl (u_ rfl) ?_
        refine w_t (pc := 22) (e_s := (0, 1, 0, 0, 0, .int (-1), [])) (y_s := (23, [some (.ref _), some (.int _), some (.int _)], [.int _], _)) rfl (u_ rfl) ?_
        exact wrI (pc := 23) (len_s := 1) rfl hk t_s
      · replace t_s := t_s.2 c3_s
        refine w_t (pc := 4) (e_s := (1, 1, 1, 0, 0, .null, [])) (y_s := (5, [some (.ref _), some (.int _)], [.int _], _)) rfl (u_ rfl) ?_
        refine w_t (pc := 5) (e_s := (3, 1, 0, 0, 0, .null, [])) (y_s := (6, [some (.ref _), some (.int _)], [.ref _, .int _], _)) rfl (u_ rfl) ?_
        refine w20 (pc := 6) (len_s := 3) rfl ?_
        refine wi3 (pc := 9) (len_s := 3) rfl rfl rfl (fun c4_s => ?_) (fun c4_s => ?_)
        · replace t_s := t_s.1 c4_s
          refine w_t (pc := 12) (e_s := (0, 1, 0, 0, 0, .int 1, [])) (y_s := (13, [some (.ref _), some (.int _)], [.int _], _)) rfl (u_ rfl) ?_
          refine w_t (pc := 13) (e_s := (17, 3, 17, 0, 0, .null, [])) (y_s := (17, [some (.ref _), some (.int _)], [.int _], _)) rfl (u_ rfl) ?_
          refine wrI (pc := 17) (len_s := 1) rfl hk ?_
          show wF _ 102 (19, [some (.ref _), some (.int _), some (.int _)], [.int _], _) _
          refine w_t (pc := 19) (e_s := (15, 3, 24, 1, 0, .null, [])) (y_s := (24, [some (.ref _), some (.int _), some (.int _)], [], _)) rfl (u_ rfl) ?_
          refine w_t (pc := 24) (e_s := (3, 1, 0, 0, 0, .null, [])) (y_s := (25, [some (.ref _), some (.int _), some (.int _)], [.ref _], _)) rfl (u_ rfl) ?_
          refine w20r (pc := 25) (len_s := 3) (q_s := 7) rfl (krq hk rfl) ?_
          refine w_t (pc := 28) (e_s := (3, 1, 0, 0, 0, .null, [])) (y_s := (29, [some (.ref _), some (.int _), some (.int _)], [.ref _, .ref _], _)) rfl (u_ rfl) ?_
          refine w20r (pc := 29) (len_s := 3) (q_s := 7) rfl (krq hk rfl) ?_
          refine w20r (pc := 32) (len_s := 3) (q_s := 10) rfl (krq hk rfl) ?_
          refine w_t (pc := 35) (e_s := (1, 1, 1, 0, 0, .null, [])) (y_s := (36, [some (.ref _), some (.int _), some (.int _)], [.int _, .ref _, .ref _], _)) rfl (u_ rfl) ?_
          refine w24 (g_s := fun j_ => 20 + j_) (pc := 36) (len_s := 1) hk rfl (hk.1 10 2 8 rfl rfl) kg10 (fun c5_s => ?_)
          replace t_s := t_s c5_s
          refine w_t (pc := 37) (e_s := (3, 1, 0, 0, 0, .null, [])) (y_s := (38, [some (.ref _), some (.int _), some (.int _)], [.ref _, .ref _, .ref _], _)) rfl (u_ rfl) ?_
          refine w20r (pc := 38) (len_s := 3) (q_s := 7) rfl (krq hk rfl) ?_
          refine w20r (pc := 41) (len_s := 3) (q_s := 11) rfl (krq hk rfl) ?_
          refine w_t (pc := 44) (e_s := (1, 1, 2, 0, 0, .null, [])) (y_s := (45, [some (.ref _), some (.int _), some (.int _)], [.int _, .ref _, .ref _, .ref _], _)) rfl (u_ rfl) ?_
          refine w24 (g_s := fun j_ => 28 + j_) (pc := 45) (len_s := 1) hk rfl (hk.1 11 3 12 rfl rfl) kg11 (fun c6_s => ?_)
          replace t_s := t_s c6_s
          refine wcI (pc := 46) (len_s := 3) rfl rfl (l := [some (.ref _), some (.ref _), some (.ref _)]) rfl (wmI t_s (fun v7 h7 hk t_s => ?_))
          replace t_s := t_s hk
          exact wrI (pc := 49) (len_s := 1) rfl hk t_s
        · replace t_s := t_s.2 c4_s
          refine w_t (pc := 16) (e_s := (0, 1, 0, 0, 0, .int 0, [])) (y_s := (17, [some (.ref _), some (.int _)], [.int _], _)) rfl (u_ rfl) ?_
          refine wrI (pc := 17) (len_s := 1) rfl hk ?_
          show wF _ 102 (19, [some (.ref _), some (.int _), some (.int _)], [.int _], _) _
          refine w_t (pc := 19) (e_s := (15, 3, 24, 1, 0, .null, [])) (y_s := (22, [some (.ref _), some (.int _), some (.int _)], [], _)) rfl (u_ rfl) ?_
          refine w_t (pc := 22) (e_s := (0, 1, 0, 0, 0, .int (-1), [])) (y_s := (23, [some (.ref _), some (.int _), some (.int _)], [.int _], _)) rfl (u_ rfl) ?_
          exact wrI (pc := 23) (len_s := 1) rfl hk t_s
    · replace t_s := t_s.2 c2_s
      refine w_t (pc := 16) (e_s := (0, 1, 0, 0, 0, .int 0, [])) (y_s := (17, [some (.ref _), some (.int _)], [.int _], _)) rfl (u_ rfl) ?_
      refine wrI (pc := 17) (len_s := 1) rfl hk ?_
      show wF _ 102 (8, [some (.ref _), some (.int _), some (.int _)], [.int _], _) _
      refine w_t (pc := 8) (e_s := (15, 3, 22, 0, 0, .null, [])) (y_s := (22, [some (.ref _), some (.int _), some (.int _)], [], _)) rfl (u_ rfl) ?_
      refine w_t (pc := 22) (e_s := (0, 1, 0, 0, 0, .int (-1), [])) (y_s := (23, [some (.ref _), some (.int _), some (.int _)], [.int _], _)) rfl (u_ rfl) ?_
      exact wrI (pc := 23) (len_s := 1) rfl hk t_s
/-- ColdShodModel.wears(II)I, from 0 on -/
theorem sg_181_0 {F_s : Nat} {x1_s : Int32} {x2_s : Int32} {h_s : zH} {K_s : Int32 → zH → Prop} (hk : hKn h_s) (t_s : (x1_s.toInt < 0 → K_s (-1) h_s) ∧ (¬ x1_s.toInt < 0 → ((((h_s.2.1 102 7) - 1).toInt < x1_s.toInt → K_s (-1) h_s) ∧ (¬ ((h_s.2.1 102 7) - 1).toInt < x1_s.toInt → ((x2_s.toInt < 0 → K_s (-1) h_s) ∧ (¬ x2_s.toInt < 0 → ((((h_s.2.1 102 8) - 1).toInt < x2_s.toInt → K_s (-1) h_s) ∧ (¬ ((h_s.2.1 102 8) - 1).toInt < x2_s.toInt → wF F_s 178 (0, [some (.ref 102), some (.int x1_s), none], [], h_s) (gV (fun h5 => hKn h5 → wF F_s 180 (0, [some (.ref 102), some (.int x2_s), none, none], [], h5) (gI (fun v6 h6 => hKn h6 → K_s v6 h6)))))))))))) : wF (F_s + 1) 181 (0, [some (.ref 102), some (.int x1_s), some (.int x2_s)], [], h_s) (gI K_s) := by
  refine w_0 (pc := 0) (e_s := (3, 1, 0, 0, 0, .null, [])) (y_s := (1, [some (.ref _), some (.int _), some (.int _)], [.ref _], _)) rfl (u_ rfl) ?_
  refine w_t (pc := 1) (e_s := (1, 1, 1, 0, 0, .null, [])) (y_s := (2, [some (.ref _), some (.int _), some (.int _)], [.int _, .ref _], _)) rfl (u_ rfl) ?_
  refine w_t (pc := 2) (e_s := (10, 1, 0, 0, 0, .null, [])) (y_s := (3, [some (.ref _), some (.int _), some (.int _)], [.long (Int32.toInt64 _), .ref _], _)) rfl (u_ rfl) ?_
  refine wcI (pc := 3) (len_s := 3) rfl rfl (l := [some (.ref _), some (.long _), none]) rfl ?_
  refine w_t (pc := 0) (e_s := (2, 1, 1, 0, 0, .null, [])) (y_s := (1, [some (.ref _), some (.long _), none], [.long _], _)) rfl (u_ rfl) ?_
  refine w_t (pc := 1) (e_s := (0, 1, 0, 0, 0, .long 0, [])) (y_s := (2, [some (.ref _), some (.long _), none], [.long _, .long _], _)) rfl (u_ rfl) ?_
  refine w_t (pc := 2) (e_s := (3, 1, 0, 0, 0, .null, [])) (y_s := (3, [some (.ref _), some (.long _), none], [.ref _, .long _, .long _], _)) rfl (u_ rfl) ?_
  refine w20 (pc := 3) (len_s := 3) rfl ?_
  refine w_t (pc := 6) (e_s := (0, 1, 0, 0, 0, .int 1, [])) (y_s := (7, [some (.ref _), some (.long _), none], [.int _, .int _, .long _, .long _], _)) rfl (u_ rfl) ?_
  refine w_t (pc := 7) (e_s := (7, 1, 0, 1, 0, .null, [])) (y_s := (8, [some (.ref _), some (.long _), none], [.int (_ - _), .long _, .long _], _)) rfl (u_ rfl) ?_
  refine w_t (pc := 8) (e_s := (10, 1, 0, 0, 0, .null, [])) (y_s := (9, [some (.ref _), some (.long _), none], [.long (Int32.toInt64 _), .long _, .long _], _)) rfl (u_ rfl) ?_
  refine wcI (pc := 9) (len_s := 3) rfl rfl (l := [some (.long _), none, some (.long _), none, some (.long _), none]) rfl ?_
  refine w_t (pc := 0) (e_s := (2, 1, 0, 0, 0, .null, [])) (y_s := (1, [some (.long _), none, some (.long _), none, some (.long _), none], [.long _], _)) rfl (u_ rfl) ?_
  refine w_t (pc := 1) (e_s := (2, 1, 2, 0, 0, .null, [])) (y_s := (2, [some (.long _), none, some (.long _), none, some (.long _), none], [.long _, .long _], _)) rfl (u_ rfl) ?_
  refine w_t (pc := 2) (e_s := (14, 1, 0, 0, 0, .null, [])) (y_s := (3, [some (.long _), none, some (.long _), none, some (.long _), none], [.int (lg_cmp _ _)], _)) rfl (u_ rfl) ?_
  refine wl2 (pc := 3) (len_s := 3) (Y := 0) rfl (Int32.toInt_toInt64 _) (by decide) (fun c1_s => ?_) (fun c1_s => ?_)
  · replace t_s := t_s.1 c1_s
    refine w_t (pc := 17) (e_s := (0, 1, 0, 0, 0, .int 0, [])) (y_s := (18, [some (.long _), none, some (.long _), none, some (.long _), none], [.int _], _)) rfl (u_ rfl) ?_
    refine wrI (pc := 18) (len_s := 1) rfl hk ?_
    show wF _ 152 (12, [some (.ref _), some (.long _), none], [.int _], _) _
    refine wrI (pc := 12) (len_s := 1) rfl hk ?_
    show wF _ 181 (6, [some (.ref _), some (.int _), some (.int _)], [.int _], _) _
    refine w_t (pc := 6) (e_s := (15, 3, 18, 0, 0, .null, [])) (y_s := (18, [some (.ref _), some (.int _), some (.int _)], [], _)) rfl (u_ rfl) ?_
    refine w_t (pc := 18) (e_s := (0, 1, 0, 0, 0, .int (-1), [])) (y_s := (19, [some (.ref _), some (.int _), some (.int _)], [.int _], _)) rfl (u_ rfl) ?_
    exact wrI (pc := 19) (len_s := 1) rfl hk t_s
  · replace t_s := t_s.2 c1_s
    refine w_t (pc := 6) (e_s := (2, 1, 0, 0, 0, .null, [])) (y_s := (7, [some (.long _), none, some (.long _), none, some (.long _), none], [.long _], _)) rfl (u_ rfl) ?_
    refine w_t (pc := 7) (e_s := (2, 2, 4, 0, 0, .null, [])) (y_s := (9, [some (.long _), none, some (.long _), none, some (.long _), none], [.long _, .long _], _)) rfl (u_ rfl) ?_
    refine w_t (pc := 9) (e_s := (14, 1, 0, 0, 0, .null, [])) (y_s := (10, [some (.long _), none, some (.long _), none, some (.long _), none], [.int (lg_cmp _ _)], _)) rfl (u_ rfl) ?_
    refine wl4 (pc := 10) (len_s := 3) rfl (Int32.toInt_toInt64 _) (Int32.toInt_toInt64 _) (fun c2_s => ?_) (fun c2_s => ?_)
    · replace t_s := t_s.1 c2_s
      refine w_t (pc := 17) (e_s := (0, 1, 0, 0, 0, .int 0, [])) (y_s := (18, [some (.long _), none, some (.long _), none, some (.long _), none], [.int _], _)) rfl (u_ rfl) ?_
      refine wrI (pc := 18) (len_s := 1) rfl hk ?_
      show wF _ 152 (12, [some (.ref _), some (.long _), none], [.int _], _) _
      refine wrI (pc := 12) (len_s := 1) rfl hk ?_
      show wF _ 181 (6, [some (.ref _), some (.int _), some (.int _)], [.int _], _) _
      refine w_t (pc := 6) (e_s := (15, 3, 18, 0, 0, .null, [])) (y_s := (18, [some (.ref _), some (.int _), some (.int _)], [], _)) rfl (u_ rfl) ?_
      refine w_t (pc := 18) (e_s := (0, 1, 0, 0, 0, .int (-1), [])) (y_s := (19, [some (.ref _), some (.int _), some (.int _)], [.int _], _)) rfl (u_ rfl) ?_
      exact wrI (pc := 19) (len_s := 1) rfl hk t_s
    · replace t_s := t_s.2 c2_s
      refine w_t (pc := 13) (e_s := (0, 1, 0, 0, 0, .int 1, [])) (y_s := (14, [some (.long _), none, some (.long _), none, some (.long _), none], [.int _], _)) rfl (u_ rfl) ?_
      refine w_t (pc := 14) (e_s := (17, 3, 18, 0, 0, .null, [])) (y_s := (18, [some (.long _), none, some (.long _), none, some (.long _), none], [.int _], _)) rfl (u_ rfl) ?_
      refine wrI (pc := 18) (len_s := 1) rfl hk ?_
      show wF _ 152 (12, [some (.ref _), some (.long _), none], [.int _], _) _
      refine wrI (pc := 12) (len_s := 1) rfl hk ?_
      show wF _ 181 (6, [some (.ref _), some (.int _), some (.int _)], [.int _], _) _
      refine w_t (pc := 6) (e_s := (15, 3, 18, 0, 0, .null, [])) (y_s := (9, [some (.ref _), some (.int _), some (.int _)], [], _)) rfl (u_ rfl) ?_
      refine w_t (pc := 9) (e_s := (3, 1, 0, 0, 0, .null, [])) (y_s := (10, [some (.ref _), some (.int _), some (.int _)], [.ref _], _)) rfl (u_ rfl) ?_
      refine w_t (pc := 10) (e_s := (1, 1, 2, 0, 0, .null, [])) (y_s := (11, [some (.ref _), some (.int _), some (.int _)], [.int _, .ref _], _)) rfl (u_ rfl) ?_
      refine w_t (pc := 11) (e_s := (10, 1, 0, 0, 0, .null, [])) (y_s := (12, [some (.ref _), some (.int _), some (.int _)], [.long (Int32.toInt64 _), .ref _], _)) rfl (u_ rfl) ?_
      refine wcI (pc := 12) (len_s := 3) rfl rfl (l := [some (.ref _), some (.long _), none]) rfl ?_
      refine w_t (pc := 0) (e_s := (2, 1, 1, 0, 0, .null, [])) (y_s := (1, [some (.ref _), some (.long _), none], [.long _], _)) rfl (u_ rfl) ?_
      refine w_t (pc := 1) (e_s := (0, 1, 0, 0, 0, .long 0, [])) (y_s := (2, [some (.ref _), some (.long _), none], [.long _, .long _], _)) rfl (u_ rfl) ?_
      refine w_t (pc := 2) (e_s := (3, 1, 0, 0, 0, .null, [])) (y_s := (3, [some (.ref _), some (.long _), none], [.ref _, .long _, .long _], _)) rfl (u_ rfl) ?_
      refine w20 (pc := 3) (len_s := 3) rfl ?_
      refine w_t (pc := 6) (e_s := (0, 1, 0, 0, 0, .int 1, [])) (y_s := (7, [some (.ref _), some (.long _), none], [.int _, .int _, .long _, .long _], _)) rfl (u_ rfl) ?_
      refine w_t (pc := 7) (e_s := (7, 1, 0, 1, 0, .null, [])) (y_s := (8, [some (.ref _), some (.long _), none], [.int (_ - _), .long _, .long _], _)) rfl (u_ rfl) ?_
      refine w_t (pc := 8) (e_s := (10, 1, 0, 0, 0, .null, [])) (y_s := (9, [some (.ref _), some (.long _), none], [.long (Int32.toInt64 _), .long _, .long _], _)) rfl (u_ rfl) ?_
      refine wcI (pc := 9) (len_s := 3) rfl rfl (l := [some (.long _), none, some (.long _), none, some (.long _), none]) rfl ?_
      refine w_t (pc := 0) (e_s := (2, 1, 0, 0, 0, .null, [])) (y_s := (1, [some (.long _), none, some (.long _), none, some (.long _), none], [.long _], _)) rfl (u_ rfl) ?_
      refine w_t (pc := 1) (e_s := (2, 1, 2, 0, 0, .null, [])) (y_s := (2, [some (.long _), none, some (.long _), none, some (.long _), none], [.long _, .long _], _)) rfl (u_ rfl) ?_
      refine w_t (pc := 2) (e_s := (14, 1, 0, 0, 0, .null, [])) (y_s := (3, [some (.long _), none, some (.long _), none, some (.long _), none], [.int (lg_cmp _ _)], _)) rfl (u_ rfl) ?_
      refine wl2 (pc := 3) (len_s := 3) (Y := 0) rfl (Int32.toInt_toInt64 _) (by decide) (fun c3_s => ?_) (fun c3_s => ?_)
      · replace t_s := t_s.1 c3_s
        refine w_t (pc := 17) (e_s := (0, 1, 0, 0, 0, .int 0, [])) (y_s := (18, [some (.long _), none, some (.long _), none, some (.long _), none], [.int _], _)) rfl (u_ rfl) ?_
        refine wrI (pc := 18) (len_s := 1) rfl hk ?_
        show wF _ 153 (12, [some (.ref _), some (.long _), none], [.int _], _) _
        refine wrI (pc := 12) (len_s := 1) rfl hk ?_
        show wF _ 181 (15, [some (.ref _), some (.int _), some (.int _)], [.int _], _) _
        refine w_t (pc := 15) (e_s := (15, 3, 20, 1, 0, .null, [])) (y_s := (18, [some (.ref _), some (.int _), some (.int _)], [], _)) rfl (u_ rfl) ?_
        refine w_t (pc := 18) (e_s := (0, 1, 0, 0, 0, .int (-1), [])) (y_s := (19, [some (.ref _), some (.int _), some (.int _)], [.int _], _)) rfl (u_ rfl) ?_
        exact wrI (pc := 19) (len_s := 1) rfl hk t_s
      · replace t_s := t_s.2 c3_s
        refine w_t (pc := 6) (e_s := (2, 1, 0, 0, 0, .null, [])) (y_s := (7, [some (.long _), none, some (.long _), none, some (.long _), none], [.long _], _)) rfl (u_ rfl) ?_
        refine w_t (pc := 7) (e_s := (2, 2, 4, 0, 0, .null, [])) (y_s := (9, [some (.long _), none, some (.long _), none, some (.long _), none], [.long _, .long _], _)) rfl (u_ rfl) ?_
        refine w_t (pc := 9) (e_s := (14, 1, 0, 0, 0, .null, [])) (y_s := (10, [some (.long _), none, some (.long _), none, some (.long _), none], [.int (lg_cmp _ _)], _)) rfl (u_ rfl) ?_
        refine wl4 (pc := 10) (len_s := 3) rfl (Int32.toInt_toInt64 _) (Int32.toInt_toInt64 _) (fun c4_s => ?_) (fun c4_s => ?_)
        · replace t_s := t_s.1 c4_s
          refine w_t (pc := 17) (e_s := (0, 1, 0, 0, 0, .int 0, [])) (y_s := (18, [some (.long _), none, some (.long _), none, some (.long _), none], [.int _], _)) rfl (u_ rfl) ?_
          refine wrI (pc := 18) (len_s := 1) rfl hk ?_
          show wF _ 153 (12, [some (.ref _), some (.long _), none], [.int _], _) _
          refine wrI (pc := 12) (len_s := 1) rfl hk ?_
          show wF _ 181 (15, [some (.ref _), some (.int _), some (.int _)], [.int _], _) _
          refine w_t (pc := 15) (e_s := (15, 3, 20, 1, 0, .null, [])) (y_s := (18, [some (.ref _), some (.int _), some (.int _)], [], _)) rfl (u_ rfl) ?_
          refine w_t (pc := 18) (e_s := (0, 1, 0, 0, 0, .int (-1), [])) (y_s := (19, [some (.ref _), some (.int _), some (.int _)], [.int _], _)) rfl (u_ rfl) ?_
          exact wrI (pc := 19) (len_s := 1) rfl hk t_s
        · replace t_s := t_s.2 c4_s
          refine w_t (pc := 13) (e_s := (0, 1, 0, 0, 0, .int 1, [])) (y_s := (14, [some (.long _), none, some (.long _), none, some (.long _), none], [.int _], _)) rfl (u_ rfl) ?_
          refine w_t (pc := 14) (e_s := (17, 3, 18, 0, 0, .null, [])) (y_s := (18, [some (.long _), none, some (.long _), none, some (.long _), none], [.int _], _)) rfl (u_ rfl) ?_
          refine wrI (pc := 18) (len_s := 1) rfl hk ?_
          show wF _ 153 (12, [some (.ref _), some (.long _), none], [.int _], _) _
          refine wrI (pc := 12) (len_s := 1) rfl hk ?_
          show wF _ 181 (15, [some (.ref _), some (.int _), some (.int _)], [.int _], _) _
          refine w_t (pc := 15) (e_s := (15, 3, 20, 1, 0, .null, [])) (y_s := (20, [some (.ref _), some (.int _), some (.int _)], [], _)) rfl (u_ rfl) ?_
          refine w_t (pc := 20) (e_s := (3, 1, 0, 0, 0, .null, [])) (y_s := (21, [some (.ref _), some (.int _), some (.int _)], [.ref _], _)) rfl (u_ rfl) ?_
          refine w_t (pc := 21) (e_s := (1, 1, 1, 0, 0, .null, [])) (y_s := (22, [some (.ref _), some (.int _), some (.int _)], [.int _, .ref _], _)) rfl (u_ rfl) ?_
          refine wcV (pc := 22) (len_s := 3) rfl rfl (l := [some (.ref _), some (.int _), none]) rfl (wmV t_s (fun h5 hk t_s => ?_))
          replace t_s := t_s hk
          refine w_t (pc := 25) (e_s := (3, 1, 0, 0, 0, .null, [])) (y_s := (26, [some (.ref _), some (.int _), some (.int _)], [.ref _], _)) rfl (u_ rfl) ?_
          refine w_t (pc := 26) (e_s := (1, 1, 2, 0, 0, .null, [])) (y_s := (27, [some (.ref _), some (.int _), some (.int _)], [.int _, .ref _], _)) rfl (u_ rfl) ?_
          refine wcI (pc := 27) (len_s := 3) rfl rfl (l := [some (.ref _), some (.int _), none, none]) rfl (wmI t_s (fun v6 h6 hk t_s => ?_))
          replace t_s := t_s hk
          exact wrI (pc := 30) (len_s := 1) rfl hk t_s
/-! BY HOW MUCH an idea is worn: class and reference. -/
noncomputable def clp (v_s : Int32) : Int32 := if v_s.toInt < 0 then 0 else if 9 < v_s.toInt then 9 else v_s
theorem i9_ : (9 : Int32).toInt = 9 := rfl
theorem i99_ : (99 : Int32).toInt = 99 := rfl
theorem clp_c (v_s : Int32) : (if 0 < (if v_s < 9 then v_s else 9) then (if v_s < 9 then v_s else 9) else 0) = clp v_s := by
  unfold clp
  by_cases c_s : v_s < 9
  · rw [if_pos c_s]
    have c1_s := (il_ v_s 9).mp c_s
    rw [i9_] at c1_s
    by_cases c2_s : (0 : Int32) < v_s
    · have c3_s := (iq4 v_s).mp c2_s
      rw [if_pos c2_s, if_neg (by omega), if_neg (by omega)]
    · have c3_s : ¬ 0 < v_s.toInt := fun w_s => c2_s ((iq4 v_s).mpr w_s)
      rw [if_neg c2_s]
      by_cases c4_s : v_s.toInt < 0
      · rw [if_pos c4_s]
      · rw [if_neg c4_s, if_neg (by omega)]
        exact (i0_ (x_s := v_s) (by omega)).symm
  · rw [if_neg c_s, if_pos (by decide)]
    have c1_s : ¬ v_s.toInt < 9 := fun w_s => c_s ((il_ v_s 9).mpr (by rw [i9_]; exact w_s))
    rw [if_neg (by omega)]
    by_cases c2_s : 9 < v_s.toInt
    · rw [if_pos c2_s]
    · rw [if_neg c2_s]
      exact Int32.toInt_inj.mp (by rw [i9_]; omega)
theorem clp_k {K_s : Int32 → Prop} {v_s : Int32} (t_s : K_s (clp v_s)) : (v_s.toInt < 0 → K_s 0) ∧ (¬ v_s.toInt < 0 → ((9 < v_s.toInt → K_s 9) ∧ (¬ 9 < v_s.toInt → K_s v_s))) := by
  unfold clp at t_s
  refine ⟨fun c_s => ?_, fun c_s => ⟨fun c1_s => ?_, fun c1_s => ?_⟩⟩
  · rw [if_pos c_s] at t_s
    exact t_s
  · rw [if_neg c_s, if_pos c1_s] at t_s
    exact t_s
  · rw [if_neg c_s, if_neg c1_s] at t_s
    exact t_s
theorem clp_b (v_s : Int32) : 0 ≤ (clp v_s).toInt ∧ (clp v_s).toInt ≤ 9 := by
  unfold clp
  by_cases c_s : v_s.toInt < 0
  · rw [if_pos c_s]
    decide
  · rw [if_neg c_s]
    by_cases c1_s : 9 < v_s.toInt
    · rw [if_pos c1_s]
      decide
    · rw [if_neg c1_s]
      omega
noncomputable def nm6 (a0_s a1_s a2 a3 a4 a5 : Int32) (k_s : Nat) : Int32 := if k_s = 0 then a0_s else if k_s = 1 then a1_s else if k_s = 2 then a2 else if k_s = 3 then a3 else if k_s = 4 then a4 else a5
noncomputable def absI (x_s : Int32) : Int32 := if x_s < 0 then -x_s else x_s
/-- an idea in thought: METAL, SHAPE, WORN, HEAT, CAST, HEATED, FORM of its HEAD (-1: none) -/
abbrev oI : Type := Nat → Int32
noncomputable def farO (o : oI) : Int32 := if (o 6).toInt < 0 then 9 else absI (o 1 - o 6)
noncomputable def weV (lw : Option (List pB)) (o : oI) (st_s kd : Int32) : Int32 := clp (lawV lw (nm6 (o 0) (o 2) (o 3) (farO o) st_s kd))
theorem nm6_eq {b_s : Prop} {n_s : Nat → Int32} {a0_s a1_s a2 a3 a4 a5 : Int32} (h0 : n_s 0 = a0_s) (h1 : b_s → n_s 1 = a1_s) (h2 : n_s 2 = a2) (h3 : n_s 3 = a3) (h4 : n_s 4 = a4) (h5 : n_s 5 = a5) : eqN b_s n_s (nm6 a0_s a1_s a2 a3 a4 a5) := by
  intro k_s hk hb_s
  have hk2 : k_s = 0 ∨ k_s = 1 ∨ k_s = 2 ∨ k_s = 3 ∨ k_s = 4 ∨ k_s = 5 := by omega
  rcases hk2 with e_s | e_s | e_s | e_s | e_s | e_s
  · subst e_s
    exact h0
  · subst e_s
    exact h1 (hb_s rfl)
  · subst e_s
    exact h2
  · subst e_s
    exact h3
  · subst e_s
    exact h4
  · subst e_s
    exact h5
/-- an object of the class is such an idea -/
noncomputable def cwO (f_s : Nat → Nat → Int32) (d_s : Nat) (o : oI) : Prop := (∀ k_s, k_s < 6 → f_s d_s k_s = o k_s) ∧ (((f_s d_s 6).toInt < 0 ∧ o 6 = -1) ∨ (0 ≤ (f_s d_s 6).toInt ∧ (f_s d_s 6).toInt < (f_s 7 6).toInt ∧ 0 ≤ (o 6).toInt ∧ o 6 = f_s 8 (zix (f_s d_s 6))))
/-- what working a law out may write -/
noncomputable def frW (f_s f1_s : Nat → Nat → Int32) : Prop := ∀ o k_s, ¬ o = 13 → ¬ o = 16 → ¬ o = 19 → f1_s o k_s = f_s o k_s
section WR
variable {F_s : Nat} {h_s : zH} {K_s : Int32 → zH → Prop} {V : zH → Prop} {lw : Option (List pB)} {q_s d_s ro : Nat} {o : oI} {f_s : Nat → Nat → Int32} {st_s kd x1_s x2_s : Int32}
theorem wear69 {n0_s n1_s n2_s n3_s : Int32} (hk : hKn h_s) (hr : h_s.2.2.2 7 9 = some q_s) (hl : lawC q_s f_s lw) (hp : lwP lw) (h1 : ¬ ro = 13) (e0_s : f_s 13 0 = n0_s) (e1_s : f_s 13 1 = n1_s) (e2_s : f_s 13 2 = n2_s) (e3_s : f_s 13 3 = n3_s) (t_s : ∀ f1_s, frW f_s f1_s → K_s (clp (lawV lw (nm6 n0_s n1_s n2_s n3_s (f_s ro 3) (f_s ro 4)))) (h_s.1, f1_s, h_s.2.2.1, h_s.2.2.2)) : wF F_s 23 (69, [some (.ref 7), some (.ref d_s), some (.ref ro)], [], (h_s.1, f_s, h_s.2.2.1, h_s.2.2.2)) (gI K_s) := by
  refine wF_le (Nat.le_succ F_s) (sg_23_69 (h_s := (h_s.1, f_s, h_s.2.2.1, h_s.2.2.2)) hk (fun q3_s r3 m3_s => ?_))
  have r3 : h_s.2.2.2 7 9 = some q3_s := r3
  rw [hr] at r3
  cases r3
  dsimp only
  have e5_s : zup f_s 13 4 (f_s ro 3) ro 4 = f_s ro 4 := zne_up (by omega)
  rw [e5_s]
  have hl2 : lawC q_s (zup (zup f_s 13 4 (f_s ro 3)) 13 5 (f_s ro 4)) lw := by
    have g_s : ∀ o k_s, ¬ o = 13 → zup (zup f_s 13 4 (f_s ro 3)) 13 5 (f_s ro 4) o k_s = f_s o k_s := fun o k_s ho => by rw [zne_up (by omega), zne_up (by omega)]
    match lw, hl with
    | none, hl => exact ⟨by rw [g_s q_s 2 (by omega)]; exact hl.1, by rw [g_s q_s 0 (by omega)]; exact hl.2⟩
    | some ls, hl =>
      obtain ⟨a1_s, a2, a3, a4, a5, a6⟩ := hl
      exact ⟨by rw [g_s q_s 2 (by omega)]; exact a1_s, a2, fun j_s c_s hj => by rw [g_s (q_s + 1) j_s (by omega)]; exact a3 j_s c_s hj, by rw [g_s q_s 0 (by omega)]; exact a4, a5, a6⟩
  refine sp_58 (h_s := (h_s.1, zup (zup f_s 13 4 (f_s ro 3)) 13 5 (f_s ro 4), h_s.2.2.1, h_s.2.2.2)) m3_s hk hl2 (fun f1_s hf1 _ => ?_)
  rw [clp_c]
  have ev_s : lawV lw (fun k_s => zup (zup f_s 13 4 (f_s ro 3)) 13 5 (f_s ro 4) 13 k_s) = lawV lw (nm6 n0_s n1_s n2_s n3_s (f_s ro 3) (f_s ro 4)) := by
    refine hp True _ _ (nm6_eq ?_ (fun _ => ?_) ?_ ?_ ?_ ?_) (Or.inl trivial)
    · show zup (zup f_s 13 4 (f_s ro 3)) 13 5 (f_s ro 4) 13 0 = n0_s
      rw [zne_up (by omega), zne_up (by omega)]
      exact e0_s
    · show zup (zup f_s 13 4 (f_s ro 3)) 13 5 (f_s ro 4) 13 1 = n1_s
      rw [zne_up (by omega), zne_up (by omega)]
      exact e1_s
    · show zup (zup f_s 13 4 (f_s ro 3)) 13 5 (f_s ro 4) 13 2 = n2_s
      rw [zne_up (by omega), zne_up (by omega)]
      exact e2_s
    · show zup (zup f_s 13 4 (f_s ro 3)) 13 5 (f_s ro 4) 13 3 = n3_s
      rw [zne_up (by omega), zne_up (by omega)]
      exact e3_s
    · show zup (zup f_s 13 4 (f_s ro 3)) 13 5 (f_s ro 4) 13 4 = f_s ro 3
      rw [zne_up (by omega), zsame_up]
    · exact zsame_up
  rw [ev_s]
  refine t_s f1_s (fun o k_s g1 g2 g3_s => ?_)
  rw [hf1 o k_s (by omega), zne_up (by omega), zne_up (by omega)]
theorem lawC_fr {f1_s : Nat → Nat → Int32} (hm_s : q_s = 14 ∨ q_s = 17) (hf : ∀ o k_s, (o = 14 ∨ o = 15 ∨ o = 17 ∨ o = 18) → f1_s o k_s = f_s o k_s) (hl : lawC q_s f_s lw) : lawC q_s f1_s lw := by
  match lw, hl with
  | none, hl => exact ⟨by rw [hf q_s 2 (by omega)]; exact hl.1, by rw [hf q_s 0 (by omega)]; exact hl.2⟩
  | some ls, hl =>
    obtain ⟨a1_s, a2, a3, a4, a5, a6⟩ := hl
    exact ⟨by rw [hf q_s 2 (by omega)]; exact a1_s, a2, fun j_s c_s hj => by rw [hf (q_s + 1) j_s (by omega)]; exact a3 j_s c_s hj, by rw [hf q_s 0 (by omega)]; exact a4, a5, a6⟩
/-- wearOf -/
theorem sp_23 (hk : hKn h_s) (hr : h_s.2.2.2 7 9 = some q_s) (hm_s : q_s = 14 ∨ q_s = 17) (hl : lawC q_s f_s lw) (hp : lwP lw) (h1 : ¬ ro = 13) (h2 : ¬ d_s = 13) (hc_s : cwO f_s d_s o) (t_s : ∀ f1_s, frW f_s f1_s → K_s (weV lw o (f_s ro 3) (f_s ro 4)) (h_s.1, f1_s, h_s.2.2.1, h_s.2.2.2)) : wF F_s 23 (0, [some (.ref 7), some (.ref d_s), some (.ref ro)], [], (h_s.1, f_s, h_s.2.2.1, h_s.2.2.2)) (gI K_s) := by
  obtain ⟨c1_s, c2_s⟩ := hc_s
  refine wF_le (Nat.le_succ F_s) (sg_23_0 (h_s := (h_s.1, f_s, h_s.2.2.1, h_s.2.2.2)) hk ?_)
  dsimp only
  have r2 : ∀ v_s k_s, zup f_s 13 0 v_s d_s k_s = f_s d_s k_s := fun v_s k_s => zne_up (by omega)
  have r3 : ∀ v_s w_s k_s, zup (zup f_s 13 0 v_s) 13 1 w_s d_s k_s = f_s d_s k_s := fun v_s w_s k_s => by rw [zne_up (by omega), zne_up (by omega)]
  rw [r2, r3, c1_s 0 (by omega), c1_s 2 (by omega), c1_s 3 (by omega)]
  generalize hg : zup (zup (zup f_s 13 0 (o 0)) 13 1 (o 2)) 13 2 (o 3) = g_s
  have gf : ∀ a_s k_s, ¬ a_s = 13 → g_s a_s k_s = f_s a_s k_s := fun a_s k_s ha_s => by rw [← hg, zne_up (by omega), zne_up (by omega), zne_up (by omega)]
  have g0 : g_s 13 0 = o 0 := by rw [← hg, zne_up (by omega), zne_up (by omega), zsame_up]
  have g1 : g_s 13 1 = o 2 := by rw [← hg, zne_up (by omega), zsame_up]
  have g2 : g_s 13 2 = o 3 := by rw [← hg, zsame_up]
  have hl2 : lawC q_s g_s lw := lawC_fr hm_s (fun a_s k_s ha_s => gf a_s k_s (by omega)) hl
  have fin_s : ∀ v_s, v_s = farO o → wF F_s 23 (69, [some (.ref 7), some (.ref d_s), some (.ref ro)], [], (h_s.1, zup g_s 13 3 v_s, h_s.2.2.1, h_s.2.2.2)) (gI K_s) := by
    intro v_s hv
    refine wear69 (n0_s := o 0) (n1_s := o 2) (n2_s := o 3) (n3_s := v_s) hk hr (lawC_fr hm_s (fun a_s k_s ha_s => by rw [zne_up (by omega)]) hl2) hp h1 (by rw [zne_up (by omega)]; exact g0) (by rw [zne_up (by omega)]; exact g1) (by rw [zne_up (by omega)]; exact g2) zsame_up (fun f1_s hf1 => ?_)
    rw [zne_up (by omega), zne_up (by omega), gf ro 3 h1, gf ro 4 h1, hv]
    refine t_s f1_s (fun a_s k_s q1_s q2_s q3_s => ?_)
    rw [hf1 a_s k_s q1_s q2_s q3_s, zne_up (by omega), gf a_s k_s q1_s]
  refine wF_le (Nat.le_succ F_s) (sg_23_30 (h_s := (h_s.1, g_s, h_s.2.2.1, h_s.2.2.2)) hk ?_)
  dsimp only
  have e7_s : g_s 7 6 = f_s 7 6 := gf 7 6 (by omega)
  have e8 : ∀ k_s, g_s 8 k_s = f_s 8 k_s := fun k_s => gf 8 k_s (by omega)
  have e1_s : f_s d_s 1 = o 1 := c1_s 1 (by omega)
  simp only [gf d_s 6 h2, gf d_s 1 h2, e7_s, e8, e1_s]
  rcases c2_s with ⟨a1_s, a2⟩ | ⟨a1_s, a2, a3, a4⟩
  · have ef : farO o = 9 := by
      unfold farO
      rw [a2]
      rfl
    exact ⟨fun _ => fin_s 9 ef.symm, fun c_s => absurd a1_s c_s⟩
  · refine ⟨fun c_s => absurd c_s (by omega), fun _ => ⟨fun _ => fun _ => fin_s _ ?_, fun c_s => absurd a2 c_s⟩⟩
    have ef : farO o = absI (o 1 - o 6) := by
      unfold farO
      rw [if_neg (by omega)]
    rw [ef, a4]
    rfl
/-- zix of a sum -/
theorem zxa {c_s x_s : Int32} {a_s r_s : Nat} (hc_s : c_s.toInt = (a_s : Int)) (hx : x_s.toInt = (r_s : Int)) (hb_s : a_s + r_s ≤ 3072) : zix (c_s + x_s) = a_s + r_s := by
  have e_s : (c_s + x_s).toInt = ((a_s + r_s : Nat) : Int) := by
    rw [na_add (by omega) (by omega)]
    omega
  have z_s := azix (i := c_s + x_s) (by omega)
  omega
/-- what working the text out may write in the reference -/
noncomputable def frX (f_s f1_s : Nat → Nat → Int32) : Prop := ∀ a_s k_s, ¬ a_s = 111 → ¬ (a_s = 102 ∧ 15 ≤ k_s ∧ k_s ≤ 19) → f1_s a_s k_s = f_s a_s k_s
theorem wrk180 {n_s : Nat → Int32} {ls : List pB} (hk : hKn h_s) (hl : lawR f_s (some ls)) (hp : lwP (some ls)) (hn : ∀ k_s, k_s < 6 → f_s 111 k_s = n_s k_s) (t_s : ∀ f1_s, frX f_s f1_s → K_s (lawV (some ls) n_s) (h_s.1, f1_s, h_s.2.2.1, h_s.2.2.2)) : wF F_s 176 (0, [some (.ref 102), some (.int 0), some (.int (f_s 102 14)), none, none, none, none, none], [], (h_s.1, f_s, h_s.2.2.1, h_s.2.2.2)) (gI K_s) := by
  obtain ⟨m_s, k_s, a1_s, a2, a3, a4⟩ := hl
  refine sp_176 (tk := fun a_s => if (a_s : Int) < (m_s : Int) then (f_s 110 a_s).toInt else -1) (n_s := m_s) (f_s := f_s) hk (Or.inr rfl) a1_s a2 (fun a_s => by rw [if_neg (show ¬ ((0 : Int32)).toInt < 0 by decide)]) (fun j_s hj => by rw [if_pos (by omega)]; exact a3 j_s hj) (fun v_s f1_s g1 g2 => ?_)
  obtain ⟨k1_s, r1_s, b1, b2⟩ := g2
  have e_s := ptx_det b1 a4
  subst e_s
  have b2 : (f1_s 102 18).toInt = -1 ∧ v_s = (gvL (fun k_s => f_s 111 k_s) ls).getD 0 := b2
  rw [b2.2]
  have ev_s := hp True (fun k_s => f_s 111 k_s) n_s (fun k_s hk6 _ => hn k_s hk6) (Or.inl trivial)
  have ev_s : (gvL (fun k_s => f_s 111 k_s) ls).getD 0 = lawV (some ls) n_s := ev_s
  rw [ev_s]
  exact t_s f1_s (fun a_s k1_s _ q2_s => g1 a_s k1_s q2_s)
theorem fin180 {fr_s : Int32} {r_s : Nat} (hk : hKn h_s) (hl : lawR f_s lw) (hp : lwP lw) (ho : ∀ k_s, k_s < 6 → f_s 112 k_s = o k_s) (hf : fr_s = farO o) (hkd : f_s 103 (92 + r_s) = kd) (hst : f_s 103 (80 + r_s) = st_s) (t_s : ∀ f1_s, frX f_s f1_s → K_s (weV lw o st_s kd) (h_s.1, f1_s, h_s.2.2.1, h_s.2.2.2)) : ((f_s 102 14).toInt < 0 → (((((1 + (f_s 103 (92 + r_s))) + (fr_s / 3)) - ((f_s 112 0) / 2)).toInt < 0 → K_s 0 (h_s.1, f_s, h_s.2.2.1, h_s.2.2.2)) ∧ (¬ (((1 + (f_s 103 (92 + r_s))) + (fr_s / 3)) - ((f_s 112 0) / 2)).toInt < 0 → ((9 < (((1 + (f_s 103 (92 + r_s))) + (fr_s / 3)) - ((f_s 112 0) / 2)).toInt → K_s 9 (h_s.1, f_s, h_s.2.2.1, h_s.2.2.2)) ∧ (¬ 9 < (((1 + (f_s 103 (92 + r_s))) + (fr_s / 3)) - ((f_s 112 0) / 2)).toInt → K_s (((1 + (f_s 103 (92 + r_s))) + (fr_s / 3)) - ((f_s 112 0) / 2)) (h_s.1, f_s, h_s.2.2.1, h_s.2.2.2)))))) ∧ (¬ (f_s 102 14).toInt < 0 → wF F_s 176 (0, [some (.ref 102), some (.int 0), some (.int (f_s 102 14)), none, none, none, none, none], [], (h_s.1, zup (zup (zup (zup (zup (zup f_s 111 0 (f_s 112 0)) 111 1 (f_s 112 2)) 111 2 (f_s 112 3)) 111 3 fr_s) 111 4 (f_s 103 (80 + r_s))) 111 5 (f_s 103 (92 + r_s)), h_s.2.2.1, h_s.2.2.2)) (gI (fun v19 h19 => hKn h19 → (v19.toInt < 0 → K_s 0 h19) ∧ (¬ v19.toInt < 0 → ((9 < v19.toInt → K_s 9 h19) ∧ (¬ 9 < v19.toInt → K_s v19 h19)))))) := by
  rw [ho 0 (by omega), ho 2 (by omega), ho 3 (by omega), hf, hkd, hst]
  refine ⟨fun c_s => ?_, fun c_s => ?_⟩
  · match lw, hl, hp, t_s with
    | none, hl, hp, t_s =>
      have u_s := t_s f_s (fun _ _ _ _ => rfl)
      unfold weV at u_s
      exact clp_k (K_s := fun v_s => K_s v_s (h_s.1, f_s, h_s.2.2.1, h_s.2.2.2)) u_s
    | some ls, hl, _, _ =>
      obtain ⟨m_s, _, a1_s, _⟩ := hl
      exact absurd c_s (by omega)
  · match lw, hl, hp, t_s with
    | none, hl, _, _ =>
      have hl : (f_s 102 14).toInt = -1 := hl
      exact absurd c_s (by omega)
    | some ls, hl, hp, t_s =>
      generalize hg : zup (zup (zup (zup (zup (zup f_s 111 0 (o 0)) 111 1 (o 2)) 111 2 (o 3)) 111 3 (farO o)) 111 4 st_s) 111 5 kd = g_s
      have gf : ∀ a_s k_s, ¬ a_s = 111 → g_s a_s k_s = f_s a_s k_s := fun a_s k_s ha_s => by rw [← hg, zne_up (by omega), zne_up (by omega), zne_up (by omega), zne_up (by omega), zne_up (by omega), zne_up (by omega)]
      have hn : eqN True (fun k_s => g_s 111 k_s) (nm6 (o 0) (o 2) (o 3) (farO o) st_s kd) := by
        refine nm6_eq ?_ (fun _ => ?_) ?_ ?_ ?_ ?_ <;> (rw [← hg]; simp (disch := omega) only [zne_up, zsame_up])
      have hl2 : lawR g_s (some ls) := by
        obtain ⟨m_s, k_s, a1_s, a2, a3, a4⟩ := hl
        refine ⟨m_s, k_s, by rw [gf _ _ (by omega)]; exact a1_s, a2, fun a_s ha_s => by rw [gf _ _ (by omega)]; exact a3 a_s ha_s, ?_⟩
        have e_s : (fun a_s : Nat => if (a_s : Int) < (m_s : Int) then (g_s 110 a_s).toInt else -1) = fun a_s : Nat => if (a_s : Int) < (m_s : Int) then (f_s 110 a_s).toInt else -1 := by
          funext a_s
          rw [gf 110 a_s (by omega)]
        rw [e_s]
        exact a4
      have e14_s : f_s 102 14 = g_s 102 14 := (gf _ _ (by omega)).symm
      rw [e14_s]
      refine wrk180 (n_s := nm6 (o 0) (o 2) (o 3) (farO o) st_s kd) hk hl2 hp (fun k_s hk6 => hn k_s hk6 (fun _ => trivial)) (fun f1_s hf1 _ => ?_)
      refine clp_k (K_s := fun v_s => K_s v_s (h_s.1, f1_s, h_s.2.2.1, h_s.2.2.2)) (t_s f1_s (fun a_s k_s q1_s q2_s => ?_))
      rw [hf1 a_s k_s q1_s q2_s, gf a_s k_s q1_s]
/-- wearsNow -/
theorem sp_180 {r_s : Nat} (hk : hKn h_s) (hl : lawR f_s lw) (hp : lwP lw) (hx : x1_s.toInt = (r_s : Int)) (hr : r_s < 12) (ho : ∀ k_s, k_s < 7 → f_s 112 k_s = o k_s) (h6 : o 6 = -1 ∨ 0 ≤ (o 6).toInt) (t_s : ∀ f1_s, frX f_s f1_s → K_s (weV lw o (f_s 103 (80 + r_s)) (f_s 103 (92 + r_s))) (h_s.1, f1_s, h_s.2.2.1, h_s.2.2.2)) : wF F_s 180 (0, [some (.ref 102), some (.int x1_s), none, none], [], (h_s.1, f_s, h_s.2.2.1, h_s.2.2.2)) (gI K_s) := by
  have z92 : zix (92 + x1_s) = 92 + r_s := zxa (c_s := 92) (a_s := 92) rfl hx (by omega)
  have z80 : zix (80 + x1_s) = 80 + r_s := zxa (c_s := 80) (a_s := 80) rfl hx (by omega)
  have go_s := fun (fr_s : Int32) (hf : fr_s = farO o) => fin180 (F_s := F_s) (fr_s := fr_s) (r_s := r_s) hk hl hp (fun k_s hk6 => ho k_s (by omega)) hf rfl rfl t_s
  refine wF_le (Nat.le_succ F_s) (sg_180_0 (h_s := (h_s.1, f_s, h_s.2.2.1, h_s.2.2.2)) hk ?_)
  dsimp only
  rw [z92, z80]
  have e6_s : f_s 112 6 = o 6 := ho 6 (by omega)
  have e1_s : f_s 112 1 = o 1 := ho 1 (by omega)
  refine ⟨fun c_s _ => ?_, fun c_s => ⟨fun c1_s _ => ?_, fun c1_s _ => ?_⟩⟩
  · rw [e6_s] at c_s
    have g_s := go_s 9 (by unfold farO; rw [if_pos c_s])
    exact ⟨g_s.1, fun c2_s _ => g_s.2 c2_s⟩
  · rw [e6_s] at c_s
    rw [e6_s, e1_s] at c1_s
    have g_s := go_s (-(f_s 112 1 - f_s 112 6)) (by
      unfold farO absI
      rw [if_neg c_s, if_pos ((iq2 _).mpr c1_s), e1_s, e6_s])
    exact ⟨g_s.1, fun c2_s _ => g_s.2 c2_s⟩
  · rw [e6_s] at c_s
    rw [e6_s, e1_s] at c1_s
    have g_s := go_s (f_s 112 1 - f_s 112 6) (by
      unfold farO absI
      rw [if_neg c_s, if_neg (fun w_s => c1_s ((iq2 _).mp w_s)), e1_s, e6_s])
    exact ⟨g_s.1, fun c2_s _ => g_s.2 c2_s⟩
/-- the idea i as the reference has it -/
noncomputable def owI (f_s : Nat → Nat → Int32) (i_s : Nat) : oI := fun k_s => if k_s < 6 then f_s 103 (12 + 8 * k_s + i_s) else (if (f_s 103 (60 + i_s)).toInt < 0 then -1 else f_s 103 (zix (f_s 103 (60 + i_s))))
theorem i8_ : (8 : Int32).toInt = 8 := rfl
theorem i12_ : (12 : Int32).toInt = 12 := rfl
theorem bg178 {i_s : Nat} {f0_s : Nat → Nat → Int32} (hk : hKn h_s) (hx : x1_s.toInt = (i_s : Int)) (hi_s : i_s < 8) (h60 : -1 ≤ (f0_s 103 (60 + i_s)).toInt) (t_s : ∀ f1_s, (∀ k_s, k_s < 7 → f1_s 112 k_s = owI f0_s i_s k_s) → (∀ a_s k_s, ¬ a_s = 112 → f1_s a_s k_s = f0_s a_s k_s) → V (h_s.1, f1_s, h_s.2.2.1, h_s.2.2.2)) : ∀ (F_s j_s : Nat) (x2_s : Int32) (f_s : Nat → Nat → Int32), x2_s.toInt = (j_s : Int) → j_s ≤ 6 → (∀ k_s, k_s < j_s → f_s 112 k_s = owI f0_s i_s k_s) → (∀ a_s k_s, ¬ a_s = 112 → f_s a_s k_s = f0_s a_s k_s) → wF F_s 178 (2, [some (.ref 102), some (.int x1_s), some (.int x2_s)], [], (h_s.1, f_s, h_s.2.2.1, h_s.2.2.2)) (gV V)
  | 0, _, _, _, _, _, _, _ => wF_zero
  | F_s + 1, j_s, x2_s, f_s, h2, hj, hf, hg => by
    have m8_s : (8 * x2_s).toInt = 8 * (j_s : Int) := by rw [na_mul (by rw [i8_]; omega) (by rw [i8_]; omega), i8_, h2]
    have m12_s : (12 + 8 * x2_s).toInt = ((12 + 8 * j_s : Nat) : Int) := by
      rw [na_add (by rw [i12_]; omega) (by rw [i12_]; omega), i12_, m8_s]
      omega
    have za : zix (12 + 8 * x2_s + x1_s) = 12 + 8 * j_s + i_s := zxa m12_s hx (by omega)
    have zj := azix (i := x2_s) (by omega)
    have ej : zix x2_s = j_s := by omega
    have z60_s : zix (60 + x1_s) = 60 + i_s := zxa (c_s := 60) (a_s := 60) rfl hx (by omega)
    refine sg_178_2 (h_s := (h_s.1, f_s, h_s.2.2.1, h_s.2.2.2)) hk ?_
    dsimp only
    rw [za, ej, z60_s, hg 103 _ (by omega), hg 103 _ (by omega)]
    refine ⟨fun c1_s _ _ => ?_, fun c1_s _ => ⟨fun c2_s => ?_, fun c2_s _ => ?_⟩⟩
    · refine bg178 hk hx hi_s h60 t_s F_s (j_s + 1) (x2_s + 1) _ (by rw [in1_ (by omega)]; omega) (by omega) (fun k_s hk1 => ?_) (fun a_s k_s ha_s => ?_)
      · by_cases e_s : k_s = j_s
        · subst e_s
          rw [zsame_up]
          unfold owI
          rw [if_pos (by omega)]
        · rw [zne_up (by omega)]
          exact hf k_s (by omega)
      · rw [zne_up (by omega)]
        exact hg a_s k_s ha_s
    · have e6_s : j_s = 6 := by omega
      subst e6_s
      refine t_s _ (fun k_s hk1 => ?_) (fun a_s k_s ha_s => ?_)
      · by_cases e_s : k_s = 6
        · subst e_s
          rw [zsame_up]
          unfold owI
          rw [if_neg (by omega), if_pos c2_s]
        · rw [zne_up (by omega)]
          exact hf k_s (by omega)
      · rw [zne_up (by omega)]
        exact hg a_s k_s ha_s
    · have e6_s : j_s = 6 := by omega
      subst e6_s
      rw [hg 103 _ (by omega)]
      refine t_s _ (fun k_s hk1 => ?_) (fun a_s k_s ha_s => ?_)
      · by_cases e_s : k_s = 6
        · subst e_s
          rw [zsame_up]
          unfold owI
          rw [if_neg (by omega), if_neg c2_s]
        · rw [zne_up (by omega)]
          exact hf k_s (by omega)
      · rw [zne_up (by omega)]
        exact hg a_s k_s ha_s
theorem sp_178 {i_s : Nat} (hk : hKn h_s) (hx : x1_s.toInt = (i_s : Int)) (hi_s : i_s < 8) (h60 : -1 ≤ (f_s 103 (60 + i_s)).toInt) (t_s : ∀ f1_s, (∀ k_s, k_s < 7 → f1_s 112 k_s = owI f_s i_s k_s) → (∀ a_s k_s, ¬ a_s = 112 → f1_s a_s k_s = f_s a_s k_s) → V (h_s.1, f1_s, h_s.2.2.1, h_s.2.2.2)) : wF F_s 178 (0, [some (.ref 102), some (.int x1_s), none], [], (h_s.1, f_s, h_s.2.2.1, h_s.2.2.2)) (gV V) := wF_le (Nat.le_succ F_s) (sg_178_0 (h_s := (h_s.1, f_s, h_s.2.2.1, h_s.2.2.2)) hk (bg178 hk hx hi_s h60 t_s F_s 0 0 f_s rfl (by omega) (fun k_s hq => absurd hq (Nat.not_lt_zero k_s)) (fun _ _ _ => rfl)))
end WR
/-! THE STATE as class and reference have it: number n of what w (as of mend). -/
noncomputable def cO (n_s w_s : Nat) : Nat := if w_s = 0 then 8 else if w_s = 1 then 9 else if w_s < 9 then 20 + n_s else 28 + n_s
noncomputable def cF (n_s w_s : Nat) : Nat := if w_s < 2 then n_s else if w_s < 9 then w_s - 2 else w_s - 7
noncomputable def plc (n_s w_s : Nat) : Nat := if w_s < 2 then 6 * w_s + n_s else if w_s < 9 then 12 + 8 * (w_s - 2) + n_s else 68 + 12 * (w_s - 9) + n_s
noncomputable def cap (w_s : Nat) : Nat := if w_s < 2 then 6 else if w_s < 9 then 8 else 12
noncomputable def mxw (w_s : Nat) : Int := if w_s = 0 then 5 else if w_s = 1 then 12 else if w_s = 2 then 3 else if w_s = 3 then 5 else if w_s = 4 then 99 else if w_s = 5 then 9 else if w_s = 6 then 1 else if w_s = 7 then 9 else if w_s = 9 then 9 else if w_s = 10 then 9 else 2
noncomputable def vB (nh nr n_s w_s : Nat) (v_s : Int) : Prop := if w_s = 8 then -1 ≤ v_s ∧ v_s < (nh : Int) else 0 ≤ v_s ∧ v_s ≤ mxw w_s ∧ (w_s = 9 → n_s < nr → 1 ≤ v_s)
theorem cO_i {n_s w_s : Nat} (h1 : 2 ≤ w_s) (h2 : w_s < 9) : cO n_s w_s = 20 + n_s := by
  unfold cO
  rw [if_neg (by omega), if_neg (by omega), if_pos h2]
theorem cF_i {n_s w_s : Nat} (h1 : 2 ≤ w_s) (h2 : w_s < 9) : cF n_s w_s = w_s - 2 := by
  unfold cF
  rw [if_neg (by omega), if_pos h2]
theorem plc_i {n_s w_s : Nat} (h1 : 2 ≤ w_s) (h2 : w_s < 9) : plc n_s w_s = 12 + 8 * (w_s - 2) + n_s := by
  unfold plc
  rw [if_neg (by omega), if_pos h2]
theorem cap_i {w_s : Nat} (h1 : 2 ≤ w_s) (h2 : w_s < 9) : cap w_s = 8 := by
  unfold cap
  rw [if_neg (by omega), if_pos h2]
theorem cO_r {n_s w_s : Nat} (h1 : 9 ≤ w_s) : cO n_s w_s = 28 + n_s := by
  unfold cO
  rw [if_neg (by omega), if_neg (by omega), if_neg (by omega)]
theorem cF_r {n_s w_s : Nat} (h1 : 9 ≤ w_s) : cF n_s w_s = w_s - 7 := by
  unfold cF
  rw [if_neg (by omega), if_neg (by omega)]
theorem plc_r {n_s w_s : Nat} (h1 : 9 ≤ w_s) : plc n_s w_s = 68 + 12 * (w_s - 9) + n_s := by
  unfold plc
  rw [if_neg (by omega), if_neg (by omega)]
theorem cap_r {w_s : Nat} (h1 : 9 ≤ w_s) : cap w_s = 12 := by
  unfold cap
  rw [if_neg (by omega), if_neg (by omega)]
theorem plc_h {n_s w_s : Nat} (h1 : w_s < 2) : plc n_s w_s = 6 * w_s + n_s := by
  unfold plc
  rw [if_pos h1]
theorem cap_h {w_s : Nat} (h1 : w_s < 2) : cap w_s = 6 := by
  unfold cap
  rw [if_pos h1]
theorem cO_h {n_s w_s : Nat} (h1 : w_s < 2) : cO n_s w_s = 8 + w_s := by
  unfold cO
  by_cases e_s : w_s = 0
  · rw [if_pos e_s, e_s]
  · rw [if_neg e_s, if_pos (by omega)]
    omega
theorem cF_h {n_s w_s : Nat} (h1 : w_s < 2) : cF n_s w_s = n_s := by
  unfold cF
  rw [if_pos h1]
theorem vB_8 {nh nr n_s : Nat} {v_s : Int} : vB nh nr n_s 8 v_s = (-1 ≤ v_s ∧ v_s < (nh : Int)) := rfl
theorem vB_n {nh nr n_s w_s : Nat} {v_s : Int} (h_s : w_s ≠ 8) : vB nh nr n_s w_s v_s = (0 ≤ v_s ∧ v_s ≤ mxw w_s ∧ (w_s = 9 → n_s < nr → 1 ≤ v_s)) := by
  unfold vB
  rw [if_neg h_s]
noncomputable def tC (nh ni nr : Nat) (f_s : Nat → Nat → Int32) : Prop := (nh ≤ 6 ∧ ni ≤ 8 ∧ nr ≤ 12) ∧ ((f_s 7 6).toInt = (nh : Int) ∧ (f_s 7 7).toInt = (ni : Int) ∧ (f_s 7 8).toInt = (nr : Int)) ∧ ((f_s 102 6).toInt = (nh : Int) ∧ (f_s 102 7).toInt = (ni : Int) ∧ (f_s 102 8).toInt = (nr : Int)) ∧ (∀ n_s w_s, w_s < 12 → n_s < cap w_s → (w_s = 8 → n_s < ni) → f_s (cO n_s w_s) (cF n_s w_s) = f_s 103 (plc n_s w_s) ∧ vB nh nr n_s w_s (f_s 103 (plc n_s w_s)).toInt) ∧ (∀ i_s, ni ≤ i_s → i_s < 8 → f_s (20 + i_s) 6 = -1) ∧ (∀ r_s, r_s < 12 → (f_s (28 + r_s) 0 = f_s 107 r_s ∧ f_s (28 + r_s) 1 = f_s 108 r_s) ∧ (0 ≤ (f_s 107 r_s).toInt ∧ (f_s 107 r_s).toInt ≤ 7) ∧ (0 ≤ (f_s 108 r_s).toInt ∧ (f_s 108 r_s).toInt ≤ 7) ∧ (r_s < nr → ¬ (f_s 107 r_s).toInt = (f_s 108 r_s).toInt))
noncomputable def inC (o k_s : Nat) : Prop := (o = 7 ∧ 6 ≤ k_s ∧ k_s ≤ 8) ∨ ((o = 8 ∨ o = 9) ∧ k_s < 6) ∨ (20 ≤ o ∧ o < 28 ∧ k_s < 7) ∨ (28 ≤ o ∧ o < 40 ∧ k_s < 5) ∨ (o = 102 ∧ 6 ≤ k_s ∧ k_s ≤ 8) ∨ (o = 103 ∧ k_s < 104) ∨ ((o = 107 ∨ o = 108) ∧ k_s < 12)
theorem plc_lt {n_s w_s : Nat} (hw : w_s < 12) (hn : n_s < cap w_s) : plc n_s w_s < 104 := by
  by_cases a_s : w_s < 2
  · rw [cap_h a_s] at hn
    rw [plc_h a_s]
    omega
  · by_cases b_s : w_s < 9
    · rw [cap_i (by omega) b_s] at hn
      rw [plc_i (by omega) b_s]
      omega
    · rw [cap_r (by omega)] at hn
      rw [plc_r (by omega)]
      omega
theorem cell_in {n_s w_s : Nat} (hw : w_s < 12) (hn : n_s < cap w_s) : inC (cO n_s w_s) (cF n_s w_s) := by
  by_cases a_s : w_s < 2
  · rw [cap_h a_s] at hn
    rw [cO_h a_s, cF_h a_s]
    unfold inC
    omega
  · by_cases b_s : w_s < 9
    · rw [cap_i (by omega) b_s] at hn
      rw [cO_i (by omega) b_s, cF_i (by omega) b_s]
      unfold inC
      omega
    · rw [cap_r (by omega)] at hn
      rw [cO_r (by omega), cF_r (by omega)]
      unfold inC
      omega
theorem tC_fr {nh ni nr : Nat} {f_s f1_s : Nat → Nat → Int32} (hf : ∀ o k_s, inC o k_s → f1_s o k_s = f_s o k_s) (h_s : tC nh ni nr f_s) : tC nh ni nr f1_s := by
  obtain ⟨a0_s, ⟨a1_s, a2, a3⟩, ⟨a4, a5, a6⟩, a7, a8, a9⟩ := h_s
  have r7 : ∀ k_s, 6 ≤ k_s → k_s ≤ 8 → f1_s 7 k_s = f_s 7 k_s := fun k_s h1 h2 => hf 7 k_s (by unfold inC; omega)
  have r2 : ∀ k_s, 6 ≤ k_s → k_s ≤ 8 → f1_s 102 k_s = f_s 102 k_s := fun k_s h1 h2 => hf 102 k_s (by unfold inC; omega)
  have r3 : ∀ k_s, k_s < 104 → f1_s 103 k_s = f_s 103 k_s := fun k_s h1 => hf 103 k_s (by unfold inC; omega)
  refine ⟨a0_s, ⟨?_, ?_, ?_⟩, ⟨?_, ?_, ?_⟩, fun n_s w_s hw hn hi_s => ?_, fun i_s h1 h2 => ?_, fun r_s hr => ?_⟩
  · rw [r7 6 (by omega) (by omega)]
    exact a1_s
  · rw [r7 7 (by omega) (by omega)]
    exact a2
  · rw [r7 8 (by omega) (by omega)]
    exact a3
  · rw [r2 6 (by omega) (by omega)]
    exact a4
  · rw [r2 7 (by omega) (by omega)]
    exact a5
  · rw [r2 8 (by omega) (by omega)]
    exact a6
  · rw [hf _ _ (cell_in hw hn), r3 _ (plc_lt hw hn)]
    exact a7 n_s w_s hw hn hi_s
  · rw [hf _ _ (by unfold inC; omega)]
    exact a8 i_s h1 h2
  · rw [hf (28 + r_s) 0 (by unfold inC; omega), hf (28 + r_s) 1 (by unfold inC; omega), hf 107 r_s (by unfold inC; omega), hf 108 r_s (by unfold inC; omega)]
    exact a9 r_s hr
section TC
variable {nh ni nr : Nat} {f_s : Nat → Nat → Int32}
theorem tC_own {i_s k_s : Nat} (h_s : tC nh ni nr f_s) (hi_s : i_s < 8) (hk : k_s < 6) : f_s (20 + i_s) k_s = f_s 103 (12 + 8 * k_s + i_s) ∧ 0 ≤ (f_s 103 (12 + 8 * k_s + i_s)).toInt ∧ (f_s 103 (12 + 8 * k_s + i_s)).toInt ≤ mxw (k_s + 2) := by
  have u_s := h_s.2.2.2.1 i_s (k_s + 2) (by omega) (by rw [cap_i (by omega) (by omega)]; exact hi_s) (fun w_s => absurd w_s (by omega))
  rw [cO_i (by omega) (by omega), cF_i (by omega) (by omega), plc_i (by omega) (by omega), vB_n (by omega), Nat.add_sub_cancel] at u_s
  exact ⟨u_s.1, u_s.2.1, u_s.2.2.1⟩
theorem tC_hd {i_s : Nat} (h_s : tC nh ni nr f_s) (hi_s : i_s < ni) : f_s (20 + i_s) 6 = f_s 103 (60 + i_s) ∧ -1 ≤ (f_s 103 (60 + i_s)).toInt ∧ (f_s 103 (60 + i_s)).toInt < (nh : Int) := h_s.2.2.2.1 i_s 8 (by omega) (Nat.lt_of_lt_of_le hi_s h_s.1.2.1) (fun _ => hi_s)
theorem tC_form {p_s : Nat} (h_s : tC nh ni nr f_s) (hp : p_s < 6) : f_s 8 p_s = f_s 103 p_s ∧ 0 ≤ (f_s 103 p_s).toInt ∧ (f_s 103 p_s).toInt ≤ 5 := by
  have u_s := h_s.2.2.2.1 p_s 0 (by omega) hp (fun w_s => absurd w_s (by omega))
  rw [cO_h (by omega), cF_h (by omega), plc_h (by omega), vB_n (by omega), Nat.mul_zero, Nat.zero_add] at u_s
  exact ⟨u_s.1, u_s.2.1, u_s.2.2.1⟩
theorem tC_will {p_s : Nat} (h_s : tC nh ni nr f_s) (hp : p_s < 6) : f_s 9 p_s = f_s 103 (6 + p_s) ∧ 0 ≤ (f_s 103 (6 + p_s)).toInt ∧ (f_s 103 (6 + p_s)).toInt ≤ 12 := by
  have u_s := h_s.2.2.2.1 p_s 1 (by omega) hp (fun w_s => absurd w_s (by omega))
  rw [cO_h (by omega), cF_h (by omega), plc_h (by omega), vB_n (by omega), Nat.mul_one] at u_s
  exact ⟨u_s.1, u_s.2.1, u_s.2.2.1⟩
theorem tC_road {r_s j_s : Nat} (h_s : tC nh ni nr f_s) (hr : r_s < 12) (hj : j_s < 3) : f_s (28 + r_s) (2 + j_s) = f_s 103 (68 + 12 * j_s + r_s) ∧ 0 ≤ (f_s 103 (68 + 12 * j_s + r_s)).toInt ∧ (f_s 103 (68 + 12 * j_s + r_s)).toInt ≤ 9 ∧ (j_s = 0 → r_s < nr → 1 ≤ (f_s 103 (68 + 12 * j_s + r_s)).toInt) := by
  have u_s := h_s.2.2.2.1 r_s (9 + j_s) (by omega) (by rw [cap_r (by omega)]; exact hr) (fun w_s => absurd w_s (by omega))
  rw [cO_r (by omega), cF_r (by omega), plc_r (by omega), vB_n (by omega), Nat.add_sub_cancel_left, show 9 + j_s - 7 = 2 + j_s by omega] at u_s
  refine ⟨u_s.1, u_s.2.1, ?_, fun e_s => u_s.2.2.2 (by omega)⟩
  have m_s : mxw (9 + j_s) ≤ 9 := by
    have e_s : j_s = 0 ∨ j_s = 1 ∨ j_s = 2 := by omega
    rcases e_s with e_s | e_s | e_s <;> (subst e_s; decide)
  have u3 := u_s.2.2.1
  omega
/-- the reference's part of it -/
noncomputable def tM (nh ni nr : Nat) (f_s : Nat → Nat → Int32) : Prop := (nh ≤ 6 ∧ ni ≤ 8 ∧ nr ≤ 12) ∧ ((f_s 102 6).toInt = (nh : Int) ∧ (f_s 102 7).toInt = (ni : Int) ∧ (f_s 102 8).toInt = (nr : Int)) ∧ (∀ n_s w_s, w_s < 12 → n_s < cap w_s → (w_s = 8 → n_s < ni) → vB nh nr n_s w_s (f_s 103 (plc n_s w_s)).toInt)
theorem tC_M (h_s : tC nh ni nr f_s) : tM nh ni nr f_s := ⟨h_s.1, h_s.2.2.1, fun n_s w_s h1 h2 h3 => (h_s.2.2.2.1 n_s w_s h1 h2 h3).2⟩
theorem tM_fr {f1_s : Nat → Nat → Int32} (h2 : ∀ k_s, 6 ≤ k_s → k_s ≤ 8 → f1_s 102 k_s = f_s 102 k_s) (h3 : ∀ k_s, k_s < 104 → f1_s 103 k_s = f_s 103 k_s) (h_s : tM nh ni nr f_s) : tM nh ni nr f1_s := by
  obtain ⟨a0_s, ⟨a1_s, a2, a3⟩, a4⟩ := h_s
  refine ⟨a0_s, ⟨?_, ?_, ?_⟩, fun n_s w_s hw hn h8 => ?_⟩
  · rw [h2 6 (by omega) (by omega)]
    exact a1_s
  · rw [h2 7 (by omega) (by omega)]
    exact a2
  · rw [h2 8 (by omega) (by omega)]
    exact a3
  · rw [h3 _ (plc_lt hw hn)]
    exact a4 n_s w_s hw hn h8
theorem tM_own {i_s k_s : Nat} (h_s : tM nh ni nr f_s) (hi_s : i_s < 8) (hk : k_s < 6) : 0 ≤ (f_s 103 (12 + 8 * k_s + i_s)).toInt ∧ (f_s 103 (12 + 8 * k_s + i_s)).toInt ≤ mxw (k_s + 2) := by
  have u_s := h_s.2.2 i_s (k_s + 2) (by omega) (by rw [cap_i (by omega) (by omega)]; exact hi_s) (fun w_s => absurd w_s (by omega))
  rw [plc_i (by omega) (by omega), vB_n (by omega), Nat.add_sub_cancel] at u_s
  exact ⟨u_s.1, u_s.2.1⟩
theorem tM_hd {i_s : Nat} (h_s : tM nh ni nr f_s) (hi_s : i_s < ni) : -1 ≤ (f_s 103 (60 + i_s)).toInt ∧ (f_s 103 (60 + i_s)).toInt < (nh : Int) := h_s.2.2 i_s 8 (by omega) (Nat.lt_of_lt_of_le hi_s h_s.1.2.1) (fun _ => hi_s)
theorem tM_form {p_s : Nat} (h_s : tM nh ni nr f_s) (hp : p_s < 6) : 0 ≤ (f_s 103 p_s).toInt ∧ (f_s 103 p_s).toInt ≤ 5 := by
  have u_s := h_s.2.2 p_s 0 (by omega) hp (fun w_s => absurd w_s (by omega))
  rw [plc_h (by omega), vB_n (by omega), Nat.mul_zero, Nat.zero_add] at u_s
  exact ⟨u_s.1, u_s.2.1⟩
theorem tM_road {r_s j_s : Nat} (h_s : tM nh ni nr f_s) (hr : r_s < 12) (hj : j_s < 3) : 0 ≤ (f_s 103 (68 + 12 * j_s + r_s)).toInt ∧ (f_s 103 (68 + 12 * j_s + r_s)).toInt ≤ 9 ∧ (j_s = 0 → r_s < nr → 1 ≤ (f_s 103 (68 + 12 * j_s + r_s)).toInt) := by
  have u_s := h_s.2.2 r_s (9 + j_s) (by omega) (by rw [cap_r (by omega)]; exact hr) (fun w_s => absurd w_s (by omega))
  rw [plc_r (by omega), vB_n (by omega), Nat.add_sub_cancel_left] at u_s
  refine ⟨u_s.1, ?_, fun e_s => u_s.2.2 (by omega)⟩
  have m_s : mxw (9 + j_s) ≤ 9 := by
    have e_s : j_s = 0 ∨ j_s = 1 ∨ j_s = 2 := by omega
    rcases e_s with e_s | e_s | e_s <;> (subst e_s; decide)
  have u3 := u_s.2.1
  omega
/-- bounds of an idea in thought -/
noncomputable def oB (o : oI) : Prop := (0 ≤ (o 0).toInt ∧ (o 0).toInt ≤ 3) ∧ (0 ≤ (o 1).toInt ∧ (o 1).toInt ≤ 5) ∧ (0 ≤ (o 2).toInt ∧ (o 2).toInt ≤ 99) ∧ (0 ≤ (o 3).toInt ∧ (o 3).toInt ≤ 9) ∧ (0 ≤ (o 4).toInt ∧ (o 4).toInt ≤ 1) ∧ (0 ≤ (o 5).toInt ∧ (o 5).toInt ≤ 9) ∧ (o 6 = -1 ∨ 0 ≤ (o 6).toInt)
theorem owI_lo {i_s k_s : Nat} (hk : k_s < 6) : owI f_s i_s k_s = f_s 103 (12 + 8 * k_s + i_s) := by
  unfold owI
  rw [if_pos hk]
theorem tM_oB {i_s : Nat} (h_s : tM nh ni nr f_s) (hi_s : i_s < ni) : oB (owI f_s i_s) := by
  have h8 : i_s < 8 := Nat.lt_of_lt_of_le hi_s h_s.1.2.1
  refine ⟨?_, ?_, ?_, ?_, ?_, ?_, ?_⟩
  · rw [owI_lo (by omega)]
    exact tM_own (k_s := 0) h_s h8 (by omega)
  · rw [owI_lo (by omega)]
    exact tM_own (k_s := 1) h_s h8 (by omega)
  · rw [owI_lo (by omega)]
    exact tM_own (k_s := 2) h_s h8 (by omega)
  · rw [owI_lo (by omega)]
    exact tM_own (k_s := 3) h_s h8 (by omega)
  · rw [owI_lo (by omega)]
    exact tM_own (k_s := 4) h_s h8 (by omega)
  · rw [owI_lo (by omega)]
    exact tM_own (k_s := 5) h_s h8 (by omega)
  · obtain ⟨h1, h2⟩ := tM_hd h_s hi_s
    unfold owI
    rw [if_neg (by omega)]
    by_cases c_s : (f_s 103 (60 + i_s)).toInt < 0
    · rw [if_pos c_s]
      exact Or.inl rfl
    · rw [if_neg c_s]
      have z_s := azix (i := f_s 103 (60 + i_s)) (by omega)
      have h6 := h_s.1.1
      exact Or.inr (tM_form h_s (p_s := zix (f_s 103 (60 + i_s))) (by omega)).1
theorem tC_oB {i_s : Nat} (h_s : tC nh ni nr f_s) (hi_s : i_s < ni) : oB (owI f_s i_s) := tM_oB (tC_M h_s) hi_s
theorem tC_cw {i_s : Nat} (h_s : tC nh ni nr f_s) (hi_s : i_s < ni) : cwO f_s (20 + i_s) (owI f_s i_s) := by
  have h8 : i_s < 8 := Nat.lt_of_lt_of_le hi_s h_s.1.2.1
  refine ⟨fun k_s hk => ?_, ?_⟩
  · rw [owI_lo hk]
    exact (tC_own h_s h8 hk).1
  · obtain ⟨h0, h1, h2⟩ := tC_hd h_s hi_s
    rw [h0, h_s.2.1.1]
    have e_s : owI f_s i_s 6 = (if (f_s 103 (60 + i_s)).toInt < 0 then -1 else f_s 103 (zix (f_s 103 (60 + i_s)))) := by
      unfold owI
      rw [if_neg (by omega)]
    by_cases c_s : (f_s 103 (60 + i_s)).toInt < 0
    · rw [if_pos c_s] at e_s
      exact Or.inl ⟨c_s, e_s⟩
    · rw [if_neg c_s] at e_s
      have z_s := azix (i := f_s 103 (60 + i_s)) (by omega)
      have h6 := h_s.1.1
      have u_s := tC_form h_s (p_s := zix (f_s 103 (60 + i_s))) (by omega)
      exact Or.inr ⟨by omega, h2, by rw [e_s]; exact u_s.2.1, by rw [e_s]; exact u_s.1.symm⟩
end TC
/-- THE LAW, as class and reference have it -/
noncomputable def tLw (h_s : zH) : Prop := ∃ (q_s q2_s : Nat) (lw : Option (List pB)), h_s.2.2.2 7 9 = some q_s ∧ h_s.2.2.2 7 10 = some q2_s ∧ ((q_s = 14 ∧ q2_s = 17) ∨ (q_s = 17 ∧ q2_s = 14)) ∧ lawC q_s h_s.2.1 lw ∧ lawR h_s.2.1 lw
noncomputable def inL (o k_s : Nat) : Prop := ((o = 14 ∨ o = 17) ∧ k_s ≤ 2) ∨ o = 15 ∨ o = 18 ∨ (o = 102 ∧ k_s = 14) ∨ (o = 110 ∧ k_s < 120)
theorem lawR_fr {f_s f1_s : Nat → Nat → Int32} {lw : Option (List pB)} (h14 : f1_s 102 14 = f_s 102 14) (h110 : ∀ k_s, k_s < 120 → f1_s 110 k_s = f_s 110 k_s) (hl : lawR f_s lw) : lawR f1_s lw := by
  match lw, hl with
  | none, hl =>
    show (f1_s 102 14).toInt = -1
    rw [h14]
    exact hl
  | some ls, hl =>
    obtain ⟨m_s, k_s, a1_s, a2, a3, a4⟩ := hl
    refine ⟨m_s, k_s, by rw [h14]; exact a1_s, a2, fun a_s ha_s => by rw [h110 a_s (by omega)]; exact a3 a_s ha_s, ?_⟩
    have e_s : (fun a_s : Nat => if (a_s : Int) < (m_s : Int) then (f1_s 110 a_s).toInt else -1) = fun a_s : Nat => if (a_s : Int) < (m_s : Int) then (f_s 110 a_s).toInt else -1 := by
      funext a_s
      by_cases c_s : (a_s : Int) < (m_s : Int)
      · rw [if_pos c_s, if_pos c_s, h110 a_s (by omega)]
      · rw [if_neg c_s, if_neg c_s]
    rw [e_s]
    exact a4
theorem sb1 {c_s : Int32} {n_s : Nat} (hc_s : c_s.toInt = (n_s : Int)) : (c_s - 1).toInt = (n_s : Int) - 1 := by
  have r_s := na_rng c_s
  rw [na_sub (by rw [n1_]; omega) (by rw [n1_]; omega), n1_, hc_s]
section PW_s
variable {F_s : Nat} {h_s : zH} {K_s : Int32 → zH → Prop} {nh ni nr : Nat} {lw : Option (List pB)} {x1_s x2_s : Int32} {f_s : Nat → Nat → Int32}
/-- what the reference's going may write: its own row, names, scratch -/
noncomputable def frG (f_s f1_s : Nat → Nat → Int32) : Prop := ∀ a_s k_s, ¬ a_s = 111 → ¬ a_s = 112 → ¬ (a_s = 102 ∧ (15 ≤ k_s ∧ k_s ≤ 19 ∨ k_s = 22 ∨ k_s = 23)) → f1_s a_s k_s = f_s a_s k_s
theorem sp_181 (hk : hKn h_s) (hl : lawR f_s lw) (hp : lwP lw) (hc_s : tM nh ni nr f_s) (t1_s : ¬ (0 ≤ x1_s.toInt ∧ x1_s.toInt < (ni : Int) ∧ 0 ≤ x2_s.toInt ∧ x2_s.toInt < (nr : Int)) → K_s (-1) (h_s.1, f_s, h_s.2.2.1, h_s.2.2.2)) (t2_s : ∀ i_s r_s : Nat, x1_s.toInt = (i_s : Int) → x2_s.toInt = (r_s : Int) → i_s < ni → r_s < nr → ∀ f1_s, frG f_s f1_s → K_s (weV lw (owI f_s i_s) (f_s 103 (80 + r_s)) (f_s 103 (92 + r_s))) (h_s.1, f1_s, h_s.2.2.1, h_s.2.2.2)) : wF F_s 181 (0, [some (.ref 102), some (.int x1_s), some (.int x2_s)], [], (h_s.1, f_s, h_s.2.2.1, h_s.2.2.2)) (gI K_s) := by
  have e7_s := sb1 hc_s.2.1.2.1
  have e8 := sb1 hc_s.2.1.2.2
  have b_s := hc_s.1
  refine wF_le (Nat.le_succ F_s) (sg_181_0 (h_s := (h_s.1, f_s, h_s.2.2.1, h_s.2.2.2)) hk ?_)
  dsimp only
  rw [e7_s, e8]
  refine ⟨fun c_s => t1_s (by omega), fun c1_s => ⟨fun c_s => t1_s (by omega), fun c2_s => ⟨fun c_s => t1_s (by omega), fun c3_s => ⟨fun c_s => t1_s (by omega), fun c4_s => ?_⟩⟩⟩⟩
  have hi_s : x1_s.toInt.toNat < ni := by omega
  have hr : x2_s.toInt.toNat < nr := by omega
  have h1 : x1_s.toInt = (x1_s.toInt.toNat : Int) := by omega
  have h2 : x2_s.toInt = (x2_s.toInt.toNat : Int) := by omega
  generalize x1_s.toInt.toNat = i_s at hi_s h1
  generalize x2_s.toInt.toNat = r_s at hr h2
  refine sp_178 hk h1 (by omega) (tM_hd hc_s hi_s).1 (fun f1_s g1 g2 hk1 => ?_)
  have hB_s := tM_oB hc_s hi_s
  have l1 : lawR f1_s lw := lawR_fr (g2 _ _ (by omega)) (fun k_s _ => g2 _ _ (by omega)) hl
  refine sp_180 (h_s := (h_s.1, f1_s, h_s.2.2.1, h_s.2.2.2)) (o := owI f_s i_s) hk1 l1 hp h2 (by omega) g1 hB_s.2.2.2.2.2.2 (fun f2_s hf2 _ => ?_)
  rw [g2 _ _ (by omega), g2 _ _ (by omega)]
  exact t2_s i_s r_s h1 h2 hi_s hr f2_s (fun a_s k_s q1_s q2_s q3_s => by rw [hf2 a_s k_s q1_s (by omega)]; exact g2 a_s k_s q2_s)
theorem sp_102 {q_s : Nat} (hk : hKn h_s) (hr9 : h_s.2.2.2 7 9 = some q_s) (hm_s : q_s = 14 ∨ q_s = 17) (hl : lawC q_s f_s lw) (hp : lwP lw) (hc_s : tC nh ni nr f_s) (t1_s : ¬ (0 ≤ x1_s.toInt ∧ x1_s.toInt < (ni : Int) ∧ 0 ≤ x2_s.toInt ∧ x2_s.toInt < (nr : Int)) → K_s (-1) (h_s.1, f_s, h_s.2.2.1, h_s.2.2.2)) (t2_s : ∀ i_s r_s : Nat, x1_s.toInt = (i_s : Int) → x2_s.toInt = (r_s : Int) → i_s < ni → r_s < nr → ∀ f1_s, frW f_s f1_s → K_s (weV lw (owI f_s i_s) (f_s 103 (80 + r_s)) (f_s 103 (92 + r_s))) (h_s.1, f1_s, h_s.2.2.1, h_s.2.2.2)) : wF F_s 102 (0, [some (.ref 6), some (.int x1_s), some (.int x2_s)], [], (h_s.1, f_s, h_s.2.2.1, h_s.2.2.2)) (gI K_s) := by
  have e7_s := hc_s.2.1.2.1
  have e8 := hc_s.2.1.2.2
  have b_s := hc_s.1
  refine wF_le (Nat.le_succ F_s) (sg_102_0 (h_s := (h_s.1, f_s, h_s.2.2.1, h_s.2.2.2)) hk ?_)
  dsimp only
  rw [e7_s, e8]
  refine ⟨fun c_s => t1_s (by omega), fun c1_s => ⟨fun c2_s => ⟨fun c_s => t1_s (by omega), fun c3_s => ⟨fun c4_s => fun _ _ => ?_, fun c_s => t1_s (by omega)⟩⟩, fun c_s => t1_s (by omega)⟩⟩
  have z1 := azix (i := x1_s) (by omega)
  have z2 := azix (i := x2_s) (by omega)
  have hi_s : zix x1_s < ni := by omega
  have hr : zix x2_s < nr := by omega
  refine sp_23 (o := owI f_s (zix x1_s)) hk hr9 hm_s hl hp (by omega) (by omega) (tC_cw hc_s hi_s) (fun f1_s hf1 _ => ?_)
  have u1_s := (tC_road (r_s := zix x2_s) (j_s := 1) hc_s (by omega) (by omega)).1
  have u2_s := (tC_road (r_s := zix x2_s) (j_s := 2) hc_s (by omega) (by omega)).1
  have u1_s : f_s (28 + zix x2_s) 3 = f_s 103 (80 + zix x2_s) := u1_s
  have u2_s : f_s (28 + zix x2_s) 4 = f_s 103 (92 + zix x2_s) := u2_s
  rw [u1_s, u2_s]
  exact t2_s (zix x1_s) (zix x2_s) z1.symm z2.symm hi_s hr f1_s hf1
end PW_s
/-! AN IDEA GOES A ROAD: as told of numbers; class and reference. -/
noncomputable def mn99 (x_s : Int32) : Int32 := if 99 < x_s.toInt then 99 else x_s
noncomputable def oset (o : oI) (k_s : Nat) (v_s : Int32) : oI := fun j_s => if j_s = k_s then v_s else o j_s
theorem os_eq {o : oI} {k_s : Nat} {v_s : Int32} : oset o k_s v_s k_s = v_s := if_pos rfl
theorem os_ne {o : oI} {k_s j_s : Nat} {v_s : Int32} (h_s : ¬ j_s = k_s) : oset o k_s v_s j_s = o j_s := if_neg h_s
noncomputable def stpO (lw : Option (List pB)) (st_s kd : Int32) (o : oI) : oI := oset o 2 (mn99 (o 2 + weV lw o st_s kd))
noncomputable def gmO (lw : Option (List pB)) (st_s kd : Int32) : Nat → oI → Nat × oI
  | 0, o => (0, o)
  | n_s + 1, o => if 99 ≤ (o 2).toInt then (0, o) else ((gmO lw st_s kd n_s (stpO lw st_s kd o)).1 + 1, (gmO lw st_s kd n_s (stpO lw st_s kd o)).2)
noncomputable def coolO (o : oI) : oI := oset o 3 (if 0 < (o 3).toInt then o 3 - 1 else o 3)
noncomputable def goO (lw : Option (List pB)) (m_s : Nat) (st_s kd : Int32) (o : oI) : Nat × Bool × oI := if (o 2).toInt < 99 ∧ ¬ (9 - o 2 / 11).toInt < st_s.toInt then (if (gmO lw st_s kd m_s o).1 = m_s then (m_s, true, coolO (gmO lw st_s kd m_s o).2) else ((gmO lw st_s kd m_s o).1, false, (gmO lw st_s kd m_s o).2)) else (0, false, o)
theorem isub0 (x_s : Int32) : x_s - 0 = x_s := by
  have r_s := na_rng x_s
  exact Int32.toInt_inj.mp (by rw [na_sub (by rw [i0n]; omega) (by rw [i0n]; omega), i0n, Int.sub_zero])
theorem iadd0 (x_s : Int32) : x_s + 0 = x_s := by
  have r_s := na_rng x_s
  exact Int32.toInt_inj.mp (by rw [na_add (by rw [i0n]; omega) (by rw [i0n]; omega), i0n, Int.add_zero])
section GO_s
variable {lw : Option (List pB)} {st_s kd : Int32} {o o1 : oI}
theorem mn99_B {w_s v_s : Int32} (h0 : 0 ≤ w_s.toInt) (h1 : w_s.toInt ≤ 99) (h2 : 0 ≤ v_s.toInt) (h3 : v_s.toInt ≤ 9) : 0 ≤ (mn99 (w_s + v_s)).toInt ∧ (mn99 (w_s + v_s)).toInt ≤ 99 := by
  have e_s : (w_s + v_s).toInt = w_s.toInt + v_s.toInt := na_add (by omega) (by omega)
  unfold mn99
  by_cases c_s : 99 < (w_s + v_s).toInt
  · rw [if_pos c_s, i99_]
    omega
  · rw [if_neg c_s]
    omega
theorem mn99_c {w_s v_s : Int32} : (if w_s + v_s < 99 then w_s + v_s else 99) = mn99 (w_s + v_s) := by
  unfold mn99
  by_cases c_s : w_s + v_s < 99
  · have c1_s := (il_ _ _).mp c_s
    rw [i99_] at c1_s
    rw [if_pos c_s, if_neg (by omega)]
  · have c1_s : ¬ (w_s + v_s).toInt < 99 := fun u_s => c_s ((il_ _ _).mpr (by rw [i99_]; exact u_s))
    rw [if_neg c_s]
    by_cases c2_s : 99 < (w_s + v_s).toInt
    · rw [if_pos c2_s]
    · rw [if_neg c2_s]
      exact Int32.toInt_inj.mp (by rw [i99_]; omega)
theorem stp_B (hB_s : oB o) : oB (stpO lw st_s kd o) := by
  obtain ⟨b0, b1, b2, b3, b4, b5, b6⟩ := hB_s
  have w_s := clp_b (lawV lw (nm6 (o 0) (o 2) (o 3) (farO o) st_s kd))
  exact ⟨b0, b1, mn99_B b2.1 b2.2 w_s.1 w_s.2, b3, b4, b5, b6⟩
theorem cool_B (hB_s : oB o) : oB (coolO o) := by
  obtain ⟨b0, b1, b2, b3, b4, b5, b6⟩ := hB_s
  refine ⟨b0, b1, b2, ?_, b4, b5, b6⟩
  show 0 ≤ (if 0 < (o 3).toInt then o 3 - 1 else o 3).toInt ∧ (if 0 < (o 3).toInt then o 3 - 1 else o 3).toInt ≤ 9
  by_cases c_s : 0 < (o 3).toInt
  · rw [if_pos c_s, na_sub (by rw [n1_]; omega) (by rw [n1_]; omega), n1_]
    omega
  · rw [if_neg c_s]
    exact b3
theorem gm_B : ∀ (n_s : Nat) {o : oI}, oB o → oB (gmO lw st_s kd n_s o).2
  | 0, _, h_s => h_s
  | n_s + 1, o, h_s => by
    unfold gmO
    by_cases c_s : 99 ≤ (o 2).toInt
    · rw [if_pos c_s]
      exact h_s
    · rw [if_neg c_s]
      exact gm_B n_s (stp_B h_s)
theorem gm_le : ∀ (n_s : Nat) {o : oI}, (gmO lw st_s kd n_s o).1 ≤ n_s
  | 0, _ => Nat.le_refl 0
  | n_s + 1, o => by
    unfold gmO
    by_cases c_s : 99 ≤ (o 2).toInt
    · rw [if_pos c_s]
      exact Nat.zero_le _
    · rw [if_neg c_s]
      exact Nat.succ_le_succ (gm_le n_s)
theorem go_B {m_s : Nat} (hB_s : oB o) : oB (goO lw m_s st_s kd o).2.2 := by
  unfold goO
  split
  · split
    · exact cool_B (gm_B m_s hB_s)
    · exact gm_B m_s hB_s
  · exact hB_s
theorem go_le {m_s : Nat} : (goO lw m_s st_s kd o).1 ≤ m_s := by
  unfold goO
  split
  · split
    · exact Nat.le_refl m_s
    · exact gm_le m_s
  · exact Nat.zero_le m_s
theorem go_all {m_s : Nat} (hm_s : 1 ≤ m_s) : (goO lw m_s st_s kd o).2.1 = true ↔ (goO lw m_s st_s kd o).1 = m_s := by
  unfold goO
  split
  · split
    · exact ⟨fun _ => rfl, fun _ => rfl⟩
    · rename_i c_s
      exact ⟨fun w_s => absurd w_s Bool.false_ne_true, fun w_s => absurd w_s c_s⟩
  · exact ⟨fun w_s => absurd w_s Bool.false_ne_true, fun w_s => absurd w_s (Nat.ne_of_lt hm_s)⟩
theorem weV_mw (hp : lwP lw) (hw : lwm lw = false) (h_s : ∀ k_s, ¬ k_s = 2 → o k_s = o1 k_s) : weV lw o st_s kd = weV lw o1 st_s kd := by
  have ef : farO o = farO o1 := by
    unfold farO
    rw [h_s 6 (by omega), h_s 1 (by omega)]
  unfold weV
  rw [hp False (nm6 (o 0) (o 2) (o 3) (farO o) st_s kd) (nm6 (o1 0) (o1 2) (o1 3) (farO o1) st_s kd) (nm6_eq (h_s 0 (by omega)) (fun w_s => w_s.elim) (h_s 3 (by omega)) ef rfl rfl) (Or.inr hw)]
theorem stp_0 (hB_s : oB o) (h0 : (weV lw o st_s kd).toInt = 0) : stpO lw st_s kd o = o := by
  funext j_s
  unfold stpO oset
  by_cases e_s : j_s = 2
  · rw [if_pos e_s, i0_ h0, iadd0, e_s]
    unfold mn99
    rw [if_neg (by have := hB_s.2.2.1.2; omega)]
  · rw [if_neg e_s]
end GO_s
/-- what the class's going may write: worn, heat of the object; scratch -/
noncomputable def frT (d_s : Nat) (f_s f1_s : Nat → Nat → Int32) : Prop := ∀ a_s k_s, ¬ a_s = 13 → ¬ a_s = 16 → ¬ a_s = 19 → ¬ (a_s = d_s ∧ (k_s = 2 ∨ k_s = 3)) → f1_s a_s k_s = f_s a_s k_s
theorem cool_c {x_s : Int32} (h0 : 0 ≤ x_s.toInt) : (if 0 < x_s - 1 then x_s - 1 else 0) = if 0 < x_s.toInt then x_s - 1 else x_s := by
  have r_s := na_rng x_s
  have e_s : (x_s - 1).toInt = x_s.toInt - 1 := by rw [na_sub (by rw [n1_]; omega) (by rw [n1_]; omega), n1_]
  by_cases c_s : 0 < x_s - 1
  · have c1_s := (iq4 _).mp c_s
    rw [if_pos c_s, if_pos (by omega)]
  · have c1_s : ¬ 0 < (x_s - 1).toInt := fun w_s => c_s ((iq4 _).mpr w_s)
    rw [if_neg c_s]
    by_cases c2_s : 0 < x_s.toInt
    · rw [if_pos c2_s]
      exact (i0_ (by omega)).symm
    · rw [if_neg c2_s]
      exact (i0_ (by omega)).symm
section GC
variable {h_s : zH} {K_s : Int32 → zH → Prop} {V : zH → Prop} {lw : Option (List pB)} {q_s d_s ro m_s : Nat} {st_s kd : Int32} {x1_s : Int32}
noncomputable def dRo (d_s ro : Nat) : Prop := 20 ≤ d_s ∧ (d_s < 28 ∨ 40 ≤ d_s) ∧ 28 ≤ ro ∧ ro < 40
theorem dRo_n (h_s : dRo d_s ro) : (¬ d_s = 13 ∧ ¬ d_s = 16 ∧ ¬ d_s = 19) ∧ (¬ 7 = d_s ∧ ¬ 8 = d_s) ∧ ¬ ro = d_s ∧ (¬ ro = 13 ∧ ¬ ro = 16 ∧ ¬ ro = 19) := by
  unfold dRo at h_s
  omega
theorem frT_ro {f0_s f_s : Nat → Nat → Int32} (h_s : dRo d_s ro) (hf : frT d_s f0_s f_s) (k_s : Nat) : f_s ro k_s = f0_s ro k_s := by
  obtain ⟨_, _, h3, h4, h5, h6⟩ := dRo_n h_s
  exact hf ro k_s h4 h5 h6 (fun w_s => h3 w_s.1)
theorem frT_l {f0_s f_s : Nat → Nat → Int32} (h_s : dRo d_s ro) (hm_s : q_s = 14 ∨ q_s = 17) (hf : frT d_s f0_s f_s) (hl : lawC q_s f0_s lw) : lawC q_s f_s lw := by
  have h1 := h_s.1
  exact lawC_fr hm_s (fun a_s k_s ha_s => hf a_s k_s (by omega) (by omega) (by omega) (by omega)) hl
theorem frT_up {f0_s f_s : Nat → Nat → Int32} {j_s : Nat} {v_s : Int32} (hj : j_s = 2 ∨ j_s = 3) (hf : frT d_s f0_s f_s) : frT d_s f0_s (zup f_s d_s j_s v_s) := fun a_s k_s q1_s q2_s q3_s q4_s => by
  rw [zne_up (by omega)]
  exact hf a_s k_s q1_s q2_s q3_s q4_s
theorem cwO_up {f_s : Nat → Nat → Int32} {o : oI} {j_s : Nat} {v_s : Int32} (h7 : ¬ 7 = d_s) (h8 : ¬ 8 = d_s) (hj : ¬ j_s = 6) (hc_s : cwO f_s d_s o) : cwO (zup f_s d_s j_s v_s) d_s (oset o j_s v_s) := by
  refine ⟨fun k_s hk6 => ?_, ?_⟩
  · by_cases e_s : k_s = j_s
    · rw [e_s, zsame_up, os_eq]
    · rw [zne_up (fun w_s => e_s w_s.2), os_ne e_s]
      exact hc_s.1 k_s hk6
  · rw [zne_up (fun w_s => hj w_s.2.symm), zne_up (fun w_s => h7 w_s.1), zne_up (fun w_s => h8 w_s.1), os_ne (fun w_s => hj w_s.symm)]
    exact hc_s.2
theorem cwO_fr {f_s f1_s : Nat → Nat → Int32} {o : oI} (h_s : dRo d_s ro) (hf : frW f_s f1_s) (hc_s : cwO f_s d_s o) : cwO f1_s d_s o := by
  obtain ⟨⟨h1, h2, h3⟩, _⟩ := dRo_n h_s
  refine ⟨fun k_s hk6 => ?_, ?_⟩
  · rw [hf d_s k_s h1 h2 h3]
    exact hc_s.1 k_s hk6
  · rw [hf d_s 6 h1 h2 h3, hf 7 6 (by omega) (by omega) (by omega), hf 8 _ (by omega) (by omega) (by omega)]
    exact hc_s.2
theorem lawC_m0 {f_s : Nat → Nat → Int32} (gl : lawC q_s f_s lw) (w_s : (f_s q_s 0).toInt = 0) : lwm lw = false := by
  match lw, gl with
  | none, _ => rfl
  | some ls, gl =>
    have w2_s := gl.2.2.2.1
    show mTx ls = false
    cases hmx : mTx ls with
    | false => rfl
    | true =>
      rw [hmx] at w2_s
      rw [w2_s] at w_s
      exact absurd w_s (by decide)
theorem gm_s {n_s : Nat} {o : oI} (h_s : (o 2).toInt < 99) : gmO lw st_s kd (n_s + 1) o = ((gmO lw st_s kd n_s (stpO lw st_s kd o)).1 + 1, (gmO lw st_s kd n_s (stpO lw st_s kd o)).2) := by
  show (if 99 ≤ (o 2).toInt then (0, o) else ((gmO lw st_s kd n_s (stpO lw st_s kd o)).1 + 1, (gmO lw st_s kd n_s (stpO lw st_s kd o)).2)) = _
  rw [if_neg (by omega)]
theorem gm_9 {n_s : Nat} {o : oI} (h_s : ¬ (o 2).toInt < 99) : gmO lw st_s kd n_s o = (0, o) := by
  match n_s with
  | 0 => rfl
  | n_s + 1 =>
    show (if 99 ≤ (o 2).toInt then (0, o) else ((gmO lw st_s kd n_s (stpO lw st_s kd o)).1 + 1, (gmO lw st_s kd n_s (stpO lw st_s kd o)).2)) = _
    rw [if_pos (by omega)]
theorem tr24z {G_s : Nat × oI} {x3 x4_s : Int32} {F_s : Nat} {o : oI} {f0_s f_s : Nat → Nat → Int32} (hk : hKn h_s) (hd_s : dRo d_s ro) (hm1 : (f0_s ro 2).toInt = (m_s : Int)) (t_s : ∀ v_s f1_s, v_s.toInt = (G_s.1 : Int) → (∀ k_s, k_s < 6 → f1_s d_s k_s = (if G_s.1 = m_s then coolO G_s.2 else G_s.2) k_s) → frT d_s f0_s f1_s → K_s v_s (h_s.1, f1_s, h_s.2.2.1, h_s.2.2.2)) (h4 : x4_s.toInt = ((m_s + 1 : Nat) : Int)) (hc_s : cwO f_s d_s o) (hB_s : oB o) (hG : (m_s, o) = G_s) (hfr : frT d_s f0_s f_s) : wF F_s 24 (20, [some (.ref 7), some (.ref d_s), some (.ref ro), some (.int x3), some (.int x4_s)], [], (h_s.1, f_s, h_s.2.2.1, h_s.2.2.2)) (gI K_s) := by
  have c3_s : f_s d_s 3 = o 3 := hc_s.1 3 (by omega)
  have er := frT_ro hd_s hfr
  obtain ⟨_, _, nr, _⟩ := dRo_n hd_s
  have e1_s : ∀ v_s, zup f_s d_s 3 v_s ro 2 = f0_s ro 2 := fun v_s => by rw [zne_up (fun w_s => nr w_s.1)]; exact er 2
  refine wF_le (Nat.le_succ F_s) (sg_24_20 (h_s := (h_s.1, f_s, h_s.2.2.1, h_s.2.2.2)) hk ?_)
  dsimp only
  simp only [c3_s, er 2, hm1, e1_s]
  refine ⟨fun _ => ?_, fun c_s => absurd c_s (by omega)⟩
  rw [← hG] at t_s
  refine t_s _ _ hm1 (fun k_s hk6 => ?_) (frT_up (Or.inr rfl) hfr)
  rw [if_pos rfl]
  unfold coolO
  by_cases e_s : k_s = 3
  · subst e_s
    rw [zsame_up, os_eq]
    exact cool_c hB_s.2.2.2.1.1
  · rw [zne_up (fun w_s => e_s w_s.2), os_ne e_s]
    exact hc_s.1 k_s hk6
theorem tr24 {G_s : Nat × oI} {f0_s : Nat → Nat → Int32} (hk : hKn h_s) (hr : h_s.2.2.2 7 9 = some q_s) (hm_s : q_s = 14 ∨ q_s = 17) (hl : lawC q_s f0_s lw) (hp : lwP lw) (hd_s : dRo d_s ro) (hst : f0_s ro 3 = st_s) (hkd : f0_s ro 4 = kd) (hm1 : (f0_s ro 2).toInt = (m_s : Int)) (hm9 : m_s ≤ 9) (t_s : ∀ v_s f1_s, v_s.toInt = (G_s.1 : Int) → (∀ k_s, k_s < 6 → f1_s d_s k_s = (if G_s.1 = m_s then coolO G_s.2 else G_s.2) k_s) → frT d_s f0_s f1_s → K_s v_s (h_s.1, f1_s, h_s.2.2.1, h_s.2.2.2)) : ∀ (F_s n_s j_s : Nat) (x3 x4_s : Int32) (f_s : Nat → Nat → Int32) (o : oI), j_s + n_s = m_s → x4_s.toInt = ((j_s + 1 : Nat) : Int) → (0 < n_s → (o 2).toInt < 99 ∧ x3 = weV lw o st_s kd) → cwO f_s d_s o → oB o → (j_s + (gmO lw st_s kd n_s o).1, (gmO lw st_s kd n_s o).2) = G_s → frT d_s f0_s f_s → wF F_s 24 (20, [some (.ref 7), some (.ref d_s), some (.ref ro), some (.int x3), some (.int x4_s)], [], (h_s.1, f_s, h_s.2.2.1, h_s.2.2.2)) (gI K_s)
  | 0, _, _, _, _, _, _, _, _, _, _, _, _, _ => wF_zero
  | F_s + 1, 0, j_s, x3, x4_s, f_s, o, hj, h4, _, hc_s, hB_s, hG, hfr => by
    have hj : j_s = m_s := hj
    subst hj
    exact tr24z hk hd_s hm1 t_s h4 hc_s hB_s hG hfr
  | F_s + 1, n_s + 1, j_s, x3, x4_s, f_s, o, hj, h4, hn, hc_s, hB_s, hG, hfr => by
    obtain ⟨n1_s, n2_s⟩ := hn (Nat.succ_pos n_s)
    obtain ⟨_, ⟨d7_s, d8_s⟩, nr, nr2⟩ := dRo_n hd_s
    have er := frT_ro hd_s hfr
    have c2_s : f_s d_s 2 = o 2 := hc_s.1 2 (by omega)
    have hw0 : 0 ≤ x3.toInt := by
      rw [n2_s]
      exact (clp_b _).1
    have e4_s : (x4_s + 1).toInt = ((j_s + 1 + 1 : Nat) : Int) := by
      rw [in1_ (by omega), h4]
      omega
    rw [gm_s n1_s] at hG
    have hG2 : (j_s + 1 + (gmO lw st_s kd n_s (stpO lw st_s kd o)).1, (gmO lw st_s kd n_s (stpO lw st_s kd o)).2) = G_s := by
      rw [← hG]
      show (j_s + 1 + _, _) = (j_s + (_ + 1), _)
      rw [Nat.add_assoc, Nat.add_comm 1]
    have hB2 : oB (stpO lw st_s kd o) := stp_B hB_s
    have es : stpO lw st_s kd o = oset o 2 (mn99 (o 2 + x3)) := by
      rw [n2_s]
      rfl
    have hc2 : cwO (zup f_s d_s 2 (mn99 (o 2 + x3))) d_s (stpO lw st_s kd o) := by
      rw [es]
      exact cwO_up d7_s d8_s (by decide) hc_s
    have hfr2 : frT d_s f0_s (zup f_s d_s 2 (mn99 (o 2 + x3))) := frT_up (Or.inl rfl) hfr
    refine sg_24_20 (h_s := (h_s.1, f_s, h_s.2.2.1, h_s.2.2.2)) hk ?_
    dsimp only
    simp only [c2_s, er 2, hm1, mn99_c]
    clear hG hfr hc_s er c2_s
    generalize zup f_s d_s 2 (mn99 (o 2 + x3)) = g_s at hc2 hfr2
    have gd_s : g_s d_s 2 = (stpO lw st_s kd o) 2 := hc2.1 2 (by omega)
    have gr := frT_ro hd_s hfr2
    have gl : lawC q_s g_s lw := frT_l hd_s hm_s hfr2 hl
    simp only [gd_s, gr 2, hm1]
    have same_s : lwm lw = false → x3 = weV lw (stpO lw st_s kd o) st_s kd := fun w_s => by
      rw [n2_s]
      exact weV_mw hp w_s (fun k_s hk2 => (os_ne hk2).symm)
    have nxt_s : ∀ y3, (0 < n_s → ((stpO lw st_s kd o) 2).toInt < 99 ∧ y3 = weV lw (stpO lw st_s kd o) st_s kd) → wF F_s 24 (20, [some (.ref 7), some (.ref d_s), some (.ref ro), some (.int y3), some (.int (x4_s + 1))], [], (h_s.1, g_s, h_s.2.2.1, h_s.2.2.2)) (gI K_s) := fun y3 hy => tr24 hk hr hm_s hl hp hd_s hst hkd hm1 hm9 t_s F_s n_s (j_s + 1) y3 (x4_s + 1) g_s (stpO lw st_s kd o) (by omega) e4_s hy hc2 hB2 hG2 hfr2
    refine ⟨fun c_s => absurd c_s (by omega), fun _ => ⟨fun c2_s => fun q3_s r3 m3_s => ?_, fun c2_s => ⟨fun c8_s => ?_, fun c8_s => fun q9_s r9 m9_s => ?_⟩⟩⟩
    · have e3_s : q_s = q3_s := (Option.some.inj (r3.symm.trans hr)).symm
      subst e3_s
      refine ⟨fun c4_s => nxt_s x3 (fun _ => ⟨c2_s, same_s (lawC_m0 gl c4_s)⟩), fun c4_s => ⟨fun c5_s => ⟨fun c6_s => ?_, fun c6_s => nxt_s x3 (fun w_s => absurd w_s (by omega))⟩, fun c5_s => nxt_s x3 (fun _ => ⟨c2_s, ?_⟩)⟩⟩
      · refine sp_23 (h_s := (h_s.1, g_s, h_s.2.2.1, h_s.2.2.2)) (o := stpO lw st_s kd o) hk hr hm_s gl hp nr2.1 (dRo_n hd_s).1.1 hc2 (fun f1_s hf1 _ => ?_)
        rw [gr 3, gr 4, hst, hkd]
        exact tr24 hk hr hm_s hl hp hd_s hst hkd hm1 hm9 t_s F_s n_s (j_s + 1) _ (x4_s + 1) f1_s (stpO lw st_s kd o) (by omega) e4_s (fun _ => ⟨c2_s, rfl⟩) (cwO_fr hd_s hf1 hc2) hB2 hG2 (fun a_s k_s q1_s q2_s q3_s q4_s => (hf1 a_s k_s q1_s q2_s q3_s).trans (hfr2 a_s k_s q1_s q2_s q3_s q4_s))
      · have e0_s : (weV lw o st_s kd).toInt = 0 := by
          rw [← n2_s]
          omega
        rw [stp_0 hB_s e0_s]
        exact n2_s
    · rw [gm_9 c2_s] at hG2
      rw [← hG2] at t_s
      refine t_s x4_s g_s h4 (fun k_s hk6 => ?_) hfr2
      rw [if_neg (show ¬ j_s + 1 + 0 = m_s by omega)]
      exact hc2.1 k_s hk6
    · have e3_s : q_s = q9_s := (Option.some.inj (r9.symm.trans hr)).symm
      subst e3_s
      have e9_s : ¬ 0 < n_s := by omega
      exact ⟨fun _ => nxt_s x3 (fun w_s => absurd w_s e9_s), fun _ => ⟨fun _ => nxt_s x3 (fun w_s => absurd w_s e9_s), fun _ => nxt_s x3 (fun w_s => absurd w_s e9_s)⟩⟩
theorem sp_24 {F_s : Nat} {f_s : Nat → Nat → Int32} {o : oI} (hk : hKn h_s) (hr : h_s.2.2.2 7 9 = some q_s) (hm_s : q_s = 14 ∨ q_s = 17) (hl : lawC q_s f_s lw) (hp : lwP lw) (hd_s : dRo d_s ro) (hm1 : (f_s ro 2).toInt = (m_s : Int)) (hm9 : m_s ≤ 9) (hc_s : cwO f_s d_s o) (hB_s : oB o) (t_s : ∀ v_s f1_s, v_s.toInt = ((goO lw m_s (f_s ro 3) (f_s ro 4) o).1 : Int) → (∀ k_s, k_s < 6 → f1_s d_s k_s = (goO lw m_s (f_s ro 3) (f_s ro 4) o).2.2 k_s) → frT d_s f_s f1_s → K_s v_s (h_s.1, f1_s, h_s.2.2.1, h_s.2.2.2)) : wF F_s 24 (0, [some (.ref 7), some (.ref d_s), some (.ref ro), none, none], [], (h_s.1, f_s, h_s.2.2.1, h_s.2.2.2)) (gI K_s) := by
  have c2_s : f_s d_s 2 = o 2 := hc_s.1 2 (by omega)
  obtain ⟨dn, _, _, rn⟩ := dRo_n hd_s
  refine wF_le (Nat.le_succ F_s) (sg_24_0 (h_s := (h_s.1, f_s, h_s.2.2.1, h_s.2.2.2)) hk ?_)
  dsimp only
  rw [c2_s]
  have no_s : ¬ ((o 2).toInt < 99 ∧ ¬ (9 - o 2 / 11).toInt < (f_s ro 3).toInt) → K_s 0 (h_s.1, f_s, h_s.2.2.1, h_s.2.2.2) := fun w_s => by
    have e_s : goO lw m_s (f_s ro 3) (f_s ro 4) o = (0, false, o) := by
      unfold goO
      rw [if_neg w_s]
    rw [e_s] at t_s
    exact t_s 0 f_s rfl (fun k_s hk6 => hc_s.1 k_s hk6) (fun _ _ _ _ _ _ => rfl)
  refine ⟨fun c1_s => ⟨fun c3_s => no_s (fun w_s => w_s.2 c3_s), fun c3_s => ?_⟩, fun c1_s => no_s (fun w_s => c1_s w_s.1)⟩
  have eg : goO lw m_s (f_s ro 3) (f_s ro 4) o = (if (gmO lw (f_s ro 3) (f_s ro 4) m_s o).1 = m_s then (m_s, true, coolO (gmO lw (f_s ro 3) (f_s ro 4) m_s o).2) else ((gmO lw (f_s ro 3) (f_s ro 4) m_s o).1, false, (gmO lw (f_s ro 3) (f_s ro 4) m_s o).2)) := by
    unfold goO
    rw [if_pos ⟨c1_s, c3_s⟩]
  refine sp_23 (o := o) hk hr hm_s hl hp rn.1 dn.1 hc_s (fun f1_s hf1 hk1 => ?_)
  have f1d : ∀ a_s k_s, ¬ a_s = 13 → ¬ a_s = 16 → ¬ a_s = 19 → f1_s a_s k_s = f_s a_s k_s := hf1
  refine tr24 (h_s := (h_s.1, f1_s, h_s.2.2.1, h_s.2.2.2)) (f0_s := f1_s) (G_s := gmO lw (f_s ro 3) (f_s ro 4) m_s o) (st_s := f_s ro 3) (kd := f_s ro 4) (m_s := m_s) hk1 hr hm_s (lawC_fr hm_s (fun a_s k_s ha_s => f1d a_s k_s (by omega) (by omega) (by omega)) hl) hp hd_s (f1d _ _ rn.1 rn.2.1 rn.2.2) (f1d _ _ rn.1 rn.2.1 rn.2.2) (by rw [f1d _ _ rn.1 rn.2.1 rn.2.2]; exact hm1) hm9 (fun v_s f2_s g1 g2 g3_s => ?_) F_s m_s 0 _ 1 f1_s o (Nat.zero_add m_s) rfl (fun _ => ⟨c1_s, rfl⟩) ?_ hB_s ?_ (fun _ _ _ _ _ _ => rfl)
  · refine t_s v_s f2_s ?_ (fun k_s hk6 => ?_) (fun a_s k_s q1_s q2_s q3_s q4_s => by rw [g3_s a_s k_s q1_s q2_s q3_s q4_s]; exact f1d a_s k_s q1_s q2_s q3_s)
    · rw [eg, g1]
      split
      · rename_i w_s
        rw [w_s]
      · rfl
    · rw [eg, g2 k_s hk6]
      split
      · rfl
      · rfl
  · exact cwO_fr hd_s hf1 hc_s
  · rw [Nat.zero_add]
/-- the reference -/
theorem gr183 {r_s : Nat} {G_s : Nat × oI} {f0_s : Nat → Nat → Int32} (hk : hKn h_s) (hl : lawR f0_s lw) (hp : lwP lw) (hx : x1_s.toInt = (r_s : Int)) (hr : r_s < 12) (hst : f0_s 103 (80 + r_s) = st_s) (hkd : f0_s 103 (92 + r_s) = kd) (hm1 : (f0_s 103 (68 + r_s)).toInt = (m_s : Int)) (hm9 : m_s ≤ 9) (t_s : ∀ f1_s, (f1_s 102 22).toInt = (G_s.1 : Int) → (f1_s 102 23).toInt = (if G_s.1 = m_s then 1 else 0) → (∀ k_s, k_s < 7 → f1_s 112 k_s = (if G_s.1 = m_s then coolO G_s.2 else G_s.2) k_s) → frG f0_s f1_s → V (h_s.1, f1_s, h_s.2.2.1, h_s.2.2.2)) : ∀ (F_s n_s j_s : Nat) (l2 : Option Value) (f_s : Nat → Nat → Int32) (o : oI), j_s + n_s = m_s → (f_s 102 22).toInt = (j_s : Int) → (∀ k_s, k_s < 7 → f_s 112 k_s = o k_s) → oB o → (j_s + (gmO lw st_s kd n_s o).1, (gmO lw st_s kd n_s o).2) = G_s → frG f0_s f_s → wF F_s 183 (18, [some (.ref 102), some (.int x1_s), l2], [], (h_s.1, f_s, h_s.2.2.1, h_s.2.2.2)) (gV V)
  | 0, _, _, _, _, _, _, _, _, _, _, _ => wF_zero
  | F_s + 1, n_s, j_s, l2, f_s, o, hj, h22, ho, hB_s, hG, hfr => by
    have z68 : zix (68 + x1_s) = 68 + r_s := zxa (c_s := 68) (a_s := 68) rfl hx (by omega)
    have e68 : f_s 103 (68 + r_s) = f0_s 103 (68 + r_s) := hfr 103 _ (by omega) (by omega) (by omega)
    have o2 : f_s 112 2 = o 2 := ho 2 (by omega)
    have o3_s : f_s 112 3 = o 3 := ho 3 (by omega)
    refine sg_183_18 (h_s := (h_s.1, f_s, h_s.2.2.1, h_s.2.2.2)) hk ?_
    dsimp only
    rw [z68, e68, h22, hm1, o2, o3_s, isub0]
    refine fun _ => ⟨fun c2_s => ⟨fun c4_s => ?_, fun c4_s => ⟨fun c11_s => absurd c11_s (by omega), fun c11_s => ?_⟩⟩, fun c2_s => ⟨fun c20_s => ?_, fun c20_s => absurd (show (j_s : Int) = (m_s : Int) by omega) c20_s⟩⟩
    · obtain ⟨n', rfl⟩ := Nat.exists_eq_succ_of_ne_zero (show n_s ≠ 0 by omega)
      have eg : gmO lw st_s kd (n' + 1) o = ((gmO lw st_s kd n' (stpO lw st_s kd o)).1 + 1, (gmO lw st_s kd n' (stpO lw st_s kd o)).2) := by
        show (if 99 ≤ (o 2).toInt then (0, o) else ((gmO lw st_s kd n' (stpO lw st_s kd o)).1 + 1, (gmO lw st_s kd n' (stpO lw st_s kd o)).2)) = _
        rw [if_neg (by omega)]
      have eg : gmO lw st_s kd n'.succ o = _ := eg
      rw [eg] at hG
      have hG2 : (j_s + 1 + (gmO lw st_s kd n' (stpO lw st_s kd o)).1, (gmO lw st_s kd n' (stpO lw st_s kd o)).2) = G_s := by
        rw [← hG]
        show (j_s + 1 + _, _) = (j_s + (_ + 1), _)
        rw [Nat.add_assoc, Nat.add_comm 1]
      have l1 : lawR f_s lw := lawR_fr (hfr _ _ (by omega) (by omega) (by omega)) (fun k_s _ => hfr _ _ (by omega) (by omega) (by omega)) hl
      refine sp_180 (o := o) hk l1 hp hx hr ho hB_s.2.2.2.2.2.2 (fun f1_s hf1 _ => ?_)
      have f1d : ∀ a_s k_s, ¬ a_s = 111 → ¬ (a_s = 102 ∧ 15 ≤ k_s ∧ k_s ≤ 19) → f1_s a_s k_s = f_s a_s k_s := hf1
      rw [hfr 103 (80 + r_s) (by omega) (by omega) (by omega), hfr 103 (92 + r_s) (by omega) (by omega) (by omega), hst, hkd]
      have e22_s : (f1_s 102 22 + 1).toInt = ((j_s + 1 : Nat) : Int) := by
        rw [f1d 102 22 (by omega) (by omega), in1_ (by omega), h22]
        omega
      have nxt_s : ∀ v_s, v_s = mn99 (o 2 + weV lw o st_s kd) → ∀ l : Option Value, wF F_s 183 (18, [some (.ref 102), some (.int x1_s), l], [], (h_s.1, zup (zup f1_s 112 2 v_s) 102 22 (f1_s 102 22 + 1), h_s.2.2.1, h_s.2.2.2)) (gV V) := by
        intro v_s hv l
        refine gr183 (f0_s := f0_s) hk hl hp hx hr hst hkd hm1 hm9 t_s F_s n' (j_s + 1) l _ (stpO lw st_s kd o) (by omega) (by rw [zsame_up]; exact e22_s) (fun k_s hk7 => ?_) (stp_B hB_s) hG2 (fun a_s k_s q1_s q2_s q3_s => ?_)
        · rw [zne_up (by omega)]
          by_cases e_s : k_s = 2
          · subst e_s
            rw [zsame_up, hv]
            exact os_eq.symm
          · rw [zne_up (by omega), f1d 112 k_s (by omega) (by omega), ho k_s hk7]
            exact (os_ne e_s).symm
        · rw [zne_up (by omega), zne_up (by omega), f1d a_s k_s q1_s (by omega)]
          exact hfr a_s k_s q1_s q2_s q3_s
      refine ⟨fun c_s => nxt_s 99 (by unfold mn99; rw [if_pos c_s]) _, fun c_s => nxt_s _ (by unfold mn99; rw [if_neg c_s]) _⟩
    · obtain ⟨n', rfl⟩ := Nat.exists_eq_succ_of_ne_zero (show n_s ≠ 0 by omega)
      have eG : G_s = (j_s, o) := by
        rw [← hG]
        show (j_s + (if 99 ≤ (o 2).toInt then (0, o) else _).1, (if 99 ≤ (o 2).toInt then (0, o) else _).2) = _
        rw [if_pos (by omega)]
        rfl
      refine t_s _ ?_ ?_ (fun k_s hk7 => ?_) (fun a_s k_s q1_s q2_s q3_s => ?_)
      · rw [zne_up (by omega), zne_up (by omega), eG]
        exact h22
      · rw [zne_up (by omega), zsame_up, eG, if_neg (show ¬ j_s = m_s by omega)]
        rfl
      · rw [eG, if_neg (show ¬ j_s = m_s by omega)]
        show _ = o k_s
        by_cases e_s : k_s = 3
        · subst e_s
          exact zsame_up
        · rw [zne_up (by omega), zne_up (by omega)]
          exact ho k_s hk7
      · rw [zne_up (by omega), zne_up (by omega)]
        exact hfr a_s k_s q1_s q2_s q3_s
    · have e0_s : n_s = 0 := by omega
      subst e0_s
      have eG : G_s = (m_s, o) := by
        rw [← hG]
        show (j_s + 0, o) = (m_s, o)
        rw [hj]
      have fin_s : ∀ v_s, v_s = (if 0 < (o 3).toInt then o 3 - 1 else o 3) → V (h_s.1, zup (zup f_s 102 23 1) 112 3 v_s, h_s.2.2.1, h_s.2.2.2) := by
        intro v_s hv
        refine t_s _ ?_ ?_ (fun k_s hk7 => ?_) (fun a_s k_s q1_s q2_s q3_s => ?_)
        · rw [zne_up (by omega), zne_up (by omega), eG, h22]
          omega
        · rw [zne_up (by omega), zsame_up, eG, if_pos rfl]
          rfl
        · rw [eG, if_pos rfl]
          show _ = oset o 3 (if 0 < (o 3).toInt then o 3 - 1 else o 3) k_s
          by_cases e_s : k_s = 3
          · subst e_s
            rw [zsame_up, os_eq]
            exact hv
          · rw [zne_up (by omega), zne_up (by omega), os_ne e_s]
            exact ho k_s hk7
        · rw [zne_up (by omega), zne_up (by omega)]
          exact hfr a_s k_s q1_s q2_s q3_s
      exact ⟨fun c_s => fin_s _ (by rw [if_pos c_s]), fun c_s => fin_s _ (by rw [if_neg c_s])⟩
theorem sp_183 {F_s r_s : Nat} {f_s : Nat → Nat → Int32} {o : oI} (hk : hKn h_s) (hl : lawR f_s lw) (hp : lwP lw) (hx : x1_s.toInt = (r_s : Int)) (hr : r_s < 12) (hm1 : (f_s 103 (68 + r_s)).toInt = (m_s : Int)) (hm9 : m_s ≤ 9) (ho : ∀ k_s, k_s < 7 → f_s 112 k_s = o k_s) (hB_s : oB o) (t_s : ∀ f1_s, (f1_s 102 22).toInt = ((goO lw m_s (f_s 103 (80 + r_s)) (f_s 103 (92 + r_s)) o).1 : Int) → (f1_s 102 23).toInt = (if (goO lw m_s (f_s 103 (80 + r_s)) (f_s 103 (92 + r_s)) o).2.1 = true then 1 else 0) → (∀ k_s, k_s < 7 → f1_s 112 k_s = (goO lw m_s (f_s 103 (80 + r_s)) (f_s 103 (92 + r_s)) o).2.2 k_s) → frG f_s f1_s → V (h_s.1, f1_s, h_s.2.2.1, h_s.2.2.2)) : wF F_s 183 (0, [some (.ref 102), some (.int x1_s), none], [], (h_s.1, f_s, h_s.2.2.1, h_s.2.2.2)) (gV V) := by
  have z80 : zix (80 + x1_s) = 80 + r_s := zxa (c_s := 80) (a_s := 80) rfl hx (by omega)
  have o2 : f_s 112 2 = o 2 := ho 2 (by omega)
  refine wF_le (Nat.le_succ F_s) (sg_183_0 (h_s := (h_s.1, f_s, h_s.2.2.1, h_s.2.2.2)) hk ?_)
  dsimp only
  rw [z80, o2]
  generalize hg : zup (zup f_s 102 22 0) 102 23 0 = g_s
  have gf : ∀ a_s k_s, ¬ (a_s = 102 ∧ (k_s = 22 ∨ k_s = 23)) → g_s a_s k_s = f_s a_s k_s := fun a_s k_s ha_s => by rw [← hg, zne_up (by omega), zne_up (by omega)]
  have g22 : (g_s 102 22).toInt = 0 := by
    rw [← hg, zne_up (by omega), zsame_up]
    rfl
  have g23 : (g_s 102 23).toInt = 0 := by
    rw [← hg, zsame_up]
    rfl
  have fg : frG f_s g_s := fun a_s k_s _ _ q3_s => gf a_s k_s (by omega)
  have no_s : ¬ ((o 2).toInt < 99 ∧ ¬ (9 - o 2 / 11).toInt < (f_s 103 (80 + r_s)).toInt) → V (h_s.1, g_s, h_s.2.2.1, h_s.2.2.2) := fun w_s => by
    have e_s : goO lw m_s (f_s 103 (80 + r_s)) (f_s 103 (92 + r_s)) o = (0, false, o) := by
      unfold goO
      rw [if_neg w_s]
    rw [e_s] at t_s
    exact t_s g_s g22 (by rw [g23]; rfl) (fun k_s hk7 => by rw [gf 112 k_s (by omega)]; exact ho k_s hk7) fg
  refine ⟨fun c1_s => fun _ => ⟨fun c3_s => no_s (fun w_s => w_s.2 c3_s), fun c3_s => ?_⟩, fun c1_s => no_s (fun w_s => c1_s w_s.1)⟩
  have eg : goO lw m_s (f_s 103 (80 + r_s)) (f_s 103 (92 + r_s)) o = (if (gmO lw (f_s 103 (80 + r_s)) (f_s 103 (92 + r_s)) m_s o).1 = m_s then (m_s, true, coolO (gmO lw (f_s 103 (80 + r_s)) (f_s 103 (92 + r_s)) m_s o).2) else ((gmO lw (f_s 103 (80 + r_s)) (f_s 103 (92 + r_s)) m_s o).1, false, (gmO lw (f_s 103 (80 + r_s)) (f_s 103 (92 + r_s)) m_s o).2)) := by
    unfold goO
    rw [if_pos ⟨c1_s, c3_s⟩]
  refine gr183 (f0_s := g_s) (r_s := r_s) (G_s := gmO lw (f_s 103 (80 + r_s)) (f_s 103 (92 + r_s)) m_s o) (st_s := f_s 103 (80 + r_s)) (kd := f_s 103 (92 + r_s)) (m_s := m_s) hk (lawR_fr (gf _ _ (by omega)) (fun k_s _ => gf _ _ (by omega)) hl) hp hx hr (gf _ _ (by omega)) (gf _ _ (by omega)) (by rw [gf _ _ (by omega)]; exact hm1) hm9 (fun f2_s g1 g2 g3_s g4 => ?_) F_s m_s 0 none g_s o (Nat.zero_add m_s) g22 (fun k_s hk7 => by rw [gf 112 k_s (by omega)]; exact ho k_s hk7) hB_s (by rw [Nat.zero_add]) (fun _ _ _ _ _ => rfl)
  refine t_s f2_s ?_ ?_ (fun k_s hk7 => ?_) (fun a_s k_s q1_s q2_s q3_s => by rw [g4 a_s k_s q1_s q2_s q3_s]; exact fg a_s k_s q1_s q2_s q3_s)
  · rw [eg, g1]
    split
    · rename_i w_s
      rw [w_s]
    · rfl
  · rw [eg, g2]
    by_cases w_s : (gmO lw (f_s 103 (80 + r_s)) (f_s 103 (92 + r_s)) m_s o).1 = m_s
    · rw [if_pos w_s, if_pos w_s]
      rfl
    · rw [if_neg w_s, if_neg w_s]
      rfl
  · rw [eg, g3_s k_s hk7]
    split
    · rfl
    · rfl
end GC
/-! What ended runs give: printed by a program (wip/fun/sg.py). -/
/-- ColdShod$Idea.strike(I)Z, from 0 on -/
theorem sg_43_0 {F_s : Nat} {d_s : Nat} {x1_s : Int32} {h_s : zH} {K_s : Int32 → zH → Prop} (hk : hKn h_s) (t_s : (x1_s.toInt = 0 → (((h_s.2.1 d_s 4).toInt = 1 → (((h_s.2.1 d_s 5).toInt < 1 → (((h_s.2.1 d_s 3).toInt = 9 → (((h_s.2.1 d_s 5).toInt = 9 → K_s 0 h_s) ∧ (¬ (h_s.2.1 d_s 5).toInt = 9 → K_s 1 (h_s.1, zup (zup h_s.2.1 d_s 3 (if ((h_s.2.1 d_s 3) + 3) < 9 then ((h_s.2.1 d_s 3) + 3) else 9)) d_s 5 (if (((zup h_s.2.1 d_s 3 (if ((h_s.2.1 d_s 3) + 3) < 9 then ((h_s.2.1 d_s 3) + 3) else 9)) d_s 5) + 1) < 9 then (((zup h_s.2.1 d_s 3 (if ((h_s.2.1 d_s 3) + 3) < 9 then ((h_s.2.1 d_s 3) + 3) else 9)) d_s 5) + 1) else 9), h_s.2.2.1, h_s.2.2.2)))) ∧ (¬ (h_s.2.1 d_s 3).toInt = 9 → K_s 1 (h_s.1, zup (zup h_s.2.1 d_s 3 (if ((h_s.2.1 d_s 3) + 3) < 9 then ((h_s.2.1 d_s 3) + 3) else 9)) d_s 5 (if (((zup h_s.2.1 d_s 3 (if ((h_s.2.1 d_s 3) + 3) < 9 then ((h_s.2.1 d_s 3) + 3) else 9)) d_s 5) + 1) < 9 then (((zup h_s.2.1 d_s 3 (if ((h_s.2.1 d_s 3) + 3) < 9 then ((h_s.2.1 d_s 3) + 3) else 9)) d_s 5) + 1) else 9), h_s.2.2.1, h_s.2.2.2)))) ∧ (¬ (h_s.2.1 d_s 5).toInt < 1 → K_s 0 h_s))) ∧ (¬ (h_s.2.1 d_s 4).toInt = 1 → (((h_s.2.1 d_s 3).toInt = 9 → (((h_s.2.1 d_s 5).toInt = 9 → K_s 0 h_s) ∧ (¬ (h_s.2.1 d_s 5).toInt = 9 → K_s 1 (h_s.1, zup (zup h_s.2.1 d_s 3 (if ((h_s.2.1 d_s 3) + 3) < 9 then ((h_s.2.1 d_s 3) + 3) else 9)) d_s 5 (if (((zup h_s.2.1 d_s 3 (if ((h_s.2.1 d_s 3) + 3) < 9 then ((h_s.2.1 d_s 3) + 3) else 9)) d_s 5) + 1) < 9 then (((zup h_s.2.1 d_s 3 (if ((h_s.2.1 d_s 3) + 3) < 9 then ((h_s.2.1 d_s 3) + 3) else 9)) d_s 5) + 1) else 9), h_s.2.2.1, h_s.2.2.2)))) ∧ (¬ (h_s.2.1 d_s 3).toInt = 9 → K_s 1 (h_s.1, zup (zup h_s.2.1 d_s 3 (if ((h_s.2.1 d_s 3) + 3) < 9 then ((h_s.2.1 d_s 3) + 3) else 9)) d_s 5 (if (((zup h_s.2.1 d_s 3 (if ((h_s.2.1 d_s 3) + 3) < 9 then ((h_s.2.1 d_s 3) + 3) else 9)) d_s 5) + 1) < 9 then (((zup h_s.2.1 d_s 3 (if ((h_s.2.1 d_s 3) + 3) < 9 then ((h_s.2.1 d_s 3) + 3) else 9)) d_s 5) + 1) else 9), h_s.2.2.1, h_s.2.2.2)))))) ∧ (¬ x1_s.toInt = 0 → (x1_s.toInt = 1 → (((h_s.2.1 d_s 3).toInt < 2 → K_s 0 h_s) ∧ (¬ (h_s.2.1 d_s 3).toInt < 2 → ((((h_s.2.1 d_s 1) + 1).toInt < 0 → K_s 0 h_s) ∧ (¬ ((h_s.2.1 d_s 1) + 1).toInt < 0 → ((5 < ((h_s.2.1 d_s 1) + 1).toInt → K_s 0 h_s) ∧ (¬ 5 < ((h_s.2.1 d_s 1) + 1).toInt → K_s 1 (h_s.1, zup (zup h_s.2.1 d_s 1 ((h_s.2.1 d_s 1) + 1)) d_s 3 (if 0 < (((zup h_s.2.1 d_s 1 ((h_s.2.1 d_s 1) + 1)) d_s 3) - 2) then (((zup h_s.2.1 d_s 1 ((h_s.2.1 d_s 1) + 1)) d_s 3) - 2) else 0), h_s.2.2.1, h_s.2.2.2)))))))) ∧ (¬ x1_s.toInt = 1 → (x1_s.toInt = 2 → (((h_s.2.1 d_s 3).toInt < 2 → K_s 0 h_s) ∧ (¬ (h_s.2.1 d_s 3).toInt < 2 → ((((h_s.2.1 d_s 1) - 1).toInt < 0 → K_s 0 h_s) ∧ (¬ ((h_s.2.1 d_s 1) - 1).toInt < 0 → ((5 < ((h_s.2.1 d_s 1) - 1).toInt → K_s 0 h_s) ∧ (¬ 5 < ((h_s.2.1 d_s 1) - 1).toInt → K_s 1 (h_s.1, zup (zup h_s.2.1 d_s 1 ((h_s.2.1 d_s 1) - 1)) d_s 3 (if 0 < (((zup h_s.2.1 d_s 1 ((h_s.2.1 d_s 1) - 1)) d_s 3) - 2) then (((zup h_s.2.1 d_s 1 ((h_s.2.1 d_s 1) - 1)) d_s 3) - 2) else 0), h_s.2.2.1, h_s.2.2.2)))))))) ∧ (¬ x1_s.toInt = 2 → (x1_s.toInt = 3 → (((h_s.2.1 d_s 3).toInt < 1 → K_s 0 h_s) ∧ (¬ (h_s.2.1 d_s 3).toInt < 1 → K_s 1 (h_s.1, zup (zup h_s.2.1 d_s 2 (if 0 < ((h_s.2.1 d_s 2) - 10) then ((h_s.2.1 d_s 2) - 10) else 0)) d_s 3 (if 0 < (((zup h_s.2.1 d_s 2 (if 0 < ((h_s.2.1 d_s 2) - 10) then ((h_s.2.1 d_s 2) - 10) else 0)) d_s 3) - 1) then (((zup h_s.2.1 d_s 2 (if 0 < ((h_s.2.1 d_s 2) - 10) then ((h_s.2.1 d_s 2) - 10) else 0)) d_s 3) - 1) else 0), h_s.2.2.1, h_s.2.2.2)))) ∧ (¬ x1_s.toInt = 3 → K_s 0 h_s))))) : wF (F_s + 1) 43 (0, [some (.ref d_s), some (.int x1_s)], [], h_s) (gI K_s) := by
  refine w_0 (pc := 0) (e_s := (1, 1, 1, 0, 0, .null, [])) (y_s := (1, [some (.ref _), some (.int _)], [.int _], _)) rfl (u_ rfl) ?_
  refine wsw (pc := 1) (len_s := 31) rfl ?_
  refine wsc (X_s := 0) rfl (by decide) (fun c1_s => ?_) (fun c1_s => ?_)
  · replace t_s := t_s.1 c1_s
    refine w_t (pc := 32) (e_s := (3, 1, 0, 0, 0, .null, [])) (y_s := (33, [some (.ref _), some (.int _)], [.ref _], _)) rfl (u_ rfl) ?_
    refine wcI (pc := 33) (len_s := 3) rfl rfl (l := [some (.ref _), none]) rfl ?_
    refine w_t (pc := 0) (e_s := (3, 1, 0, 0, 0, .null, [])) (y_s := (1, [some (.ref _), none], [.ref _], _)) rfl (u_ rfl) ?_
    refine w20 (pc := 1) (len_s := 3) rfl ?_
    refine w_t (pc := 4) (e_s := (0, 1, 0, 0, 0, .int 1, [])) (y_s := (5, [some (.ref _), none], [.int _, .int _], _)) rfl (u_ rfl) ?_
    refine wi1 (pc := 5) (len_s := 3) (Y := 1) rfl rfl (by decide) (fun c2_s => ?_) (fun c2_s => ?_)
    · replace t_s := t_s.1 c2_s
      refine w_t (pc := 8) (e_s := (3, 1, 0, 0, 0, .null, [])) (y_s := (9, [some (.ref _), none], [.ref _], _)) rfl (u_ rfl) ?_
      refine w20 (pc := 9) (len_s := 3) rfl ?_
      refine w_t (pc := 12) (e_s := (0, 1, 0, 0, 0, .int 1, [])) (y_s := (13, [some (.ref _), none], [.int _, .int _], _)) rfl (u_ rfl) ?_
      refine wi2 (pc := 13) (len_s := 3) (Y := 1) rfl rfl (by decide) (fun c3_s => ?_) (fun c3_s => ?_)
      · replace t_s := t_s.1 c3_s
        refine w_t (pc := 20) (e_s := (0, 1, 0, 0, 0, .int 0, [])) (y_s := (21, [some (.ref _), none], [.int _], _)) rfl (u_ rfl) ?_
        refine w_t (pc := 21) (e_s := (4, 1, 1, 0, 0, .null, [])) (y_s := (22, [some (.ref _), some (.int _)], [], _)) rfl (u_ rfl) ?_
        refine w_t (pc := 22) (e_s := (1, 1, 1, 0, 0, .null, [])) (y_s := (23, [some (.ref _), some (.int _)], [.int _], _)) rfl (u_ rfl) ?_
        refine w_t (pc := 23) (e_s := (15, 3, 44, 1, 0, .null, [])) (y_s := (26, [some (.ref _), some (.int _)], [], _)) rfl (u_ rfl) ?_
        refine w_t (pc := 26) (e_s := (3, 1, 0, 0, 0, .null, [])) (y_s := (27, [some (.ref _), some (.int _)], [.ref _], _)) rfl (u_ rfl) ?_
        refine w20 (pc := 27) (len_s := 3) rfl ?_
        refine w_t (pc := 30) (e_s := (0, 2, 0, 0, 0, .int 9, [])) (y_s := (32, [some (.ref _), some (.int _)], [.int _, .int _], _)) rfl (u_ rfl) ?_
        refine wi1 (pc := 32) (len_s := 3) (Y := 9) rfl rfl (by decide) (fun c4_s => ?_) (fun c4_s => ?_)
        · replace t_s := t_s.1 c4_s
          refine w_t (pc := 35) (e_s := (3, 1, 0, 0, 0, .null, [])) (y_s := (36, [some (.ref _), some (.int _)], [.ref _], _)) rfl (u_ rfl) ?_
          refine w20 (pc := 36) (len_s := 3) rfl ?_
          refine w_t (pc := 39) (e_s := (0, 2, 0, 0, 0, .int 9, [])) (y_s := (41, [some (.ref _), some (.int _)], [.int _, .int _], _)) rfl (u_ rfl) ?_
          refine wi1 (pc := 41) (len_s := 3) (Y := 9) rfl rfl (by decide) (fun c5_s => ?_) (fun c5_s => ?_)
          · replace t_s := t_s.1 c5_s
            refine w_t (pc := 44) (e_s := (0, 1, 0, 0, 0, .int 0, [])) (y_s := (45, [some (.ref _), some (.int _)], [.int _], _)) rfl (u_ rfl) ?_
            refine wrI (pc := 45) (len_s := 1) rfl hk ?_
            show wF _ 43 (36, [some (.ref _), some (.int _)], [.int _], _) _
            exact wrI (pc := 36) (len_s := 1) rfl hk t_s
          · replace t_s := t_s.2 c5_s
            refine w_t (pc := 46) (e_s := (3, 1, 0, 0, 0, .null, [])) (y_s := (47, [some (.ref _), some (.int _)], [.ref _], _)) rfl (u_ rfl) ?_
            refine w_t (pc := 47) (e_s := (0, 2, 0, 0, 0, .int 9, [])) (y_s := (49, [some (.ref _), some (.int _)], [.int _, .ref _], _)) rfl (u_ rfl) ?_
            refine w_t (pc := 49) (e_s := (3, 1, 0, 0, 0, .null, [])) (y_s := (50, [some (.ref _), some (.int _)], [.ref _, .int _, .ref _], _)) rfl (u_ rfl) ?_
            refine w20 (pc := 50) (len_s := 3) rfl ?_
            refine w_t (pc := 53) (e_s := (0, 1, 0, 0, 0, .int 3, [])) (y_s := (54, [some (.ref _), some (.int _)], [.int _, .int _, .int _, .ref _], _)) rfl (u_ rfl) ?_
            refine w_t (pc := 54) (e_s := (7, 1, 0, 0, 0, .null, [])) (y_s := (55, [some (.ref _), some (.int _)], [.int (_ + _), .int _, .ref _], _)) rfl (u_ rfl) ?_
            refine w_t (pc := 55) (e_s := (31, 3, 0, 1, 0, .null, [(0, 811), (0, 780), (0, 781), (0, 777)])) (y_s := (58, [some (.ref _), some (.int _)], [.int _, .ref _], _)) rfl (u_ rfl) ?_
            refine w21 (pc := 58) (len_s := 3) rfl ?_
            refine w_t (pc := 61) (e_s := (3, 1, 0, 0, 0, .null, [])) (y_s := (62, [some (.ref _), some (.int _)], [.ref _], _)) rfl (u_ rfl) ?_
            refine w_t (pc := 62) (e_s := (0, 2, 0, 0, 0, .int 9, [])) (y_s := (64, [some (.ref _), some (.int _)], [.int _, .ref _], _)) rfl (u_ rfl) ?_
            refine w_t (pc := 64) (e_s := (3, 1, 0, 0, 0, .null, [])) (y_s := (65, [some (.ref _), some (.int _)], [.ref _, .int _, .ref _], _)) rfl (u_ rfl) ?_
            refine w20 (pc := 65) (len_s := 3) rfl ?_
            refine w_t (pc := 68) (e_s := (0, 1, 0, 0, 0, .int 1, [])) (y_s := (69, [some (.ref _), some (.int _)], [.int _, .int _, .int _, .ref _], _)) rfl (u_ rfl) ?_
            refine w_t (pc := 69) (e_s := (7, 1, 0, 0, 0, .null, [])) (y_s := (70, [some (.ref _), some (.int _)], [.int (_ + _), .int _, .ref _], _)) rfl (u_ rfl) ?_
            refine w_t (pc := 70) (e_s := (31, 3, 0, 1, 0, .null, [(0, 811), (0, 780), (0, 781), (0, 777)])) (y_s := (73, [some (.ref _), some (.int _)], [.int _, .ref _], _)) rfl (u_ rfl) ?_
            refine w21 (pc := 73) (len_s := 3) rfl ?_
            refine w_t (pc := 76) (e_s := (0, 1, 0, 0, 0, .int 1, [])) (y_s := (77, [some (.ref _), some (.int _)], [.int _], _)) rfl (u_ rfl) ?_
            refine wrI (pc := 77) (len_s := 1) rfl hk ?_
            show wF _ 43 (36, [some (.ref _), some (.int _)], [.int _], _) _
            exact wrI (pc := 36) (len_s := 1) rfl hk t_s
        · replace t_s := t_s.2 c4_s
          refine w_t (pc := 46) (e_s := (3, 1, 0, 0, 0, .null, [])) (y_s := (47, [some (.ref _), some (.int _)], [.ref _], _)) rfl (u_ rfl) ?_
          refine w_t (pc := 47) (e_s := (0, 2, 0, 0, 0, .int 9, [])) (y_s := (49, [some (.ref _), some (.int _)], [.int _, .ref _], _)) rfl (u_ rfl) ?_
          refine w_t (pc := 49) (e_s := (3, 1, 0, 0, 0, .null, [])) (y_s := (50, [some (.ref _), some (.int _)], [.ref _, .int _, .ref _], _)) rfl (u_ rfl) ?_
          refine w20 (pc := 50) (len_s := 3) rfl ?_
          refine w_t (pc := 53) (e_s := (0, 1, 0, 0, 0, .int 3, [])) (y_s := (54, [some (.ref _), some (.int _)], [.int _, .int _, .int _, .ref _], _)) rfl (u_ rfl) ?_
          refine w_t (pc := 54) (e_s := (7, 1, 0, 0, 0, .null, [])) (y_s := (55, [some (.ref _), some (.int _)], [.int (_ + _), .int _, .ref _], _)) rfl (u_ rfl) ?_
          refine w_t (pc := 55) (e_s := (31, 3, 0, 1, 0, .null, [(0, 811), (0, 780), (0, 781), (0, 777)])) (y_s := (58, [some (.ref _), some (.int _)], [.int _, .ref _], _)) rfl (u_ rfl) ?_
          refine w21 (pc := 58) (len_s := 3) rfl ?_
          refine w_t (pc := 61) (e_s := (3, 1, 0, 0, 0, .null, [])) (y_s := (62, [some (.ref _), some (.int _)], [.ref _], _)) rfl (u_ rfl) ?_
          refine w_t (pc := 62) (e_s := (0, 2, 0, 0, 0, .int 9, [])) (y_s := (64, [some (.ref _), some (.int _)], [.int _, .ref _], _)) rfl (u_ rfl) ?_
          refine w_t (pc := 64) (e_s := (3, 1, 0, 0, 0, .null, [])) (y_s := (65, [some (.ref _), some (.int _)], [.ref _, .int _, .ref _], _)) rfl (u_ rfl) ?_
          refine w20 (pc := 65) (len_s := 3) rfl ?_
          refine w_t (pc := 68) (e_s := (0, 1, 0, 0, 0, .int 1, [])) (y_s := (69, [some (.ref _), some (.int _)], [.int _, .int _, .int _, .ref _], _)) rfl (u_ rfl) ?_
          refine w_t (pc := 69) (e_s := (7, 1, 0, 0, 0, .null, [])) (y_s := (70, [some (.ref _), some (.int _)], [.int (_ + _), .int _, .ref _], _)) rfl (u_ rfl) ?_
          refine w_t (pc := 70) (e_s := (31, 3, 0, 1, 0, .null, [(0, 811), (0, 780), (0, 781), (0, 777)])) (y_s := (73, [some (.ref _), some (.int _)], [.int _, .ref _], _)) rfl (u_ rfl) ?_
          refine w21 (pc := 73) (len_s := 3) rfl ?_
          refine w_t (pc := 76) (e_s := (0, 1, 0, 0, 0, .int 1, [])) (y_s := (77, [some (.ref _), some (.int _)], [.int _], _)) rfl (u_ rfl) ?_
          refine wrI (pc := 77) (len_s := 1) rfl hk ?_
          show wF _ 43 (36, [some (.ref _), some (.int _)], [.int _], _) _
          exact wrI (pc := 36) (len_s := 1) rfl hk t_s
      · replace t_s := t_s.2 c3_s
        refine w_t (pc := 16) (e_s := (0, 1, 0, 0, 0, .int 1, [])) (y_s := (17, [some (.ref _), none], [.int _], _)) rfl (u_ rfl) ?_
        refine w_t (pc := 17) (e_s := (17, 3, 21, 0, 0, .null, [])) (y_s := (21, [some (.ref _), none], [.int _], _)) rfl (u_ rfl) ?_
        refine w_t (pc := 21) (e_s := (4, 1, 1, 0, 0, .null, [])) (y_s := (22, [some (.ref _), some (.int _)], [], _)) rfl (u_ rfl) ?_
        refine w_t (pc := 22) (e_s := (1, 1, 1, 0, 0, .null, [])) (y_s := (23, [some (.ref _), some (.int _)], [.int _], _)) rfl (u_ rfl) ?_
        refine w_t (pc := 23) (e_s := (15, 3, 44, 1, 0, .null, [])) (y_s := (44, [some (.ref _), some (.int _)], [], _)) rfl (u_ rfl) ?_
        refine w_t (pc := 44) (e_s := (0, 1, 0, 0, 0, .int 0, [])) (y_s := (45, [some (.ref _), some (.int _)], [.int _], _)) rfl (u_ rfl) ?_
        refine wrI (pc := 45) (len_s := 1) rfl hk ?_
        show wF _ 43 (36, [some (.ref _), some (.int _)], [.int _], _) _
        exact wrI (pc := 36) (len_s := 1) rfl hk t_s
    · replace t_s := t_s.2 c2_s
      refine w_t (pc := 20) (e_s := (0, 1, 0, 0, 0, .int 0, [])) (y_s := (21, [some (.ref _), none], [.int _], _)) rfl (u_ rfl) ?_
      refine w_t (pc := 21) (e_s := (4, 1, 1, 0, 0, .null, [])) (y_s := (22, [some (.ref _), some (.int _)], [], _)) rfl (u_ rfl) ?_
      refine w_t (pc := 22) (e_s := (1, 1, 1, 0, 0, .null, [])) (y_s := (23, [some (.ref _), some (.int _)], [.int _], _)) rfl (u_ rfl) ?_
      refine w_t (pc := 23) (e_s := (15, 3, 44, 1, 0, .null, [])) (y_s := (26, [some (.ref _), some (.int _)], [], _)) rfl (u_ rfl) ?_
      refine w_t (pc := 26) (e_s := (3, 1, 0, 0, 0, .null, [])) (y_s := (27, [some (.ref _), some (.int _)], [.ref _], _)) rfl (u_ rfl) ?_
      refine w20 (pc := 27) (len_s := 3) rfl ?_
      refine w_t (pc := 30) (e_s := (0, 2, 0, 0, 0, .int 9, [])) (y_s := (32, [some (.ref _), some (.int _)], [.int _, .int _], _)) rfl (u_ rfl) ?_
      refine wi1 (pc := 32) (len_s := 3) (Y := 9) rfl rfl (by decide) (fun c6_s => ?_) (fun c6_s => ?_)
      · replace t_s := t_s.1 c6_s
        refine w_t (pc := 35) (e_s := (3, 1, 0, 0, 0, .null, [])) (y_s := (36, [some (.ref _), some (.int _)], [.ref _], _)) rfl (u_ rfl) ?_
        refine w20 (pc := 36) (len_s := 3) rfl ?_
        refine w_t (pc := 39) (e_s := (0, 2, 0, 0, 0, .int 9, [])) (y_s := (41, [some (.ref _), some (.int _)], [.int _, .int _], _)) rfl (u_ rfl) ?_
        refine wi1 (pc := 41) (len_s := 3) (Y := 9) rfl rfl (by decide) (fun c7_s => ?_) (fun c7_s => ?_)
        · replace t_s := t_s.1 c7_s
          refine w_t (pc := 44) (e_s := (0, 1, 0, 0, 0, .int 0, [])) (y_s := (45, [some (.ref _), some (.int _)], [.int _], _)) rfl (u_ rfl) ?_
          refine wrI (pc := 45) (len_s := 1) rfl hk ?_
          show wF _ 43 (36, [some (.ref _), some (.int _)], [.int _], _) _
          exact wrI (pc := 36) (len_s := 1) rfl hk t_s
        · replace t_s := t_s.2 c7_s
          refine w_t (pc := 46) (e_s := (3, 1, 0, 0, 0, .null, [])) (y_s := (47, [some (.ref _), some (.int _)], [.ref _], _)) rfl (u_ rfl) ?_
          refine w_t (pc := 47) (e_s := (0, 2, 0, 0, 0, .int 9, [])) (y_s := (49, [some (.ref _), some (.int _)], [.int _, .ref _], _)) rfl (u_ rfl) ?_
          refine w_t (pc := 49) (e_s := (3, 1, 0, 0, 0, .null, [])) (y_s := (50, [some (.ref _), some (.int _)], [.ref _, .int _, .ref _], _)) rfl (u_ rfl) ?_
          refine w20 (pc := 50) (len_s := 3) rfl ?_
          refine w_t (pc := 53) (e_s := (0, 1, 0, 0, 0, .int 3, [])) (y_s := (54, [some (.ref _), some (.int _)], [.int _, .int _, .int _, .ref _], _)) rfl (u_ rfl) ?_
          refine w_t (pc := 54) (e_s := (7, 1, 0, 0, 0, .null, [])) (y_s := (55, [some (.ref _), some (.int _)], [.int (_ + _), .int _, .ref _], _)) rfl (u_ rfl) ?_
          refine w_t (pc := 55) (e_s := (31, 3, 0, 1, 0, .null, [(0, 811), (0, 780), (0, 781), (0, 777)])) (y_s := (58, [some (.ref _), some (.int _)], [.int _, .ref _], _)) rfl (u_ rfl) ?_
          refine w21 (pc := 58) (len_s := 3) rfl ?_
          refine w_t (pc := 61) (e_s := (3, 1, 0, 0, 0, .null, [])) (y_s := (62, [some (.ref _), some (.int _)], [.ref _], _)) rfl (u_ rfl) ?_
          refine w_t (pc := 62) (e_s := (0, 2, 0, 0, 0, .int 9, [])) (y_s := (64, [some (.ref _), some (.int _)], [.int _, .ref _], _)) rfl (u_ rfl) ?_
          refine w_t (pc := 64) (e_s := (3, 1, 0, 0, 0, .null, [])) (y_s := (65, [some (.ref _), some (.int _)], [.ref _, .int _, .ref _], _)) rfl (u_ rfl) ?_
          refine w20 (pc := 65) (len_s := 3) rfl ?_
          refine w_t (pc := 68) (e_s := (0, 1, 0, 0, 0, .int 1, [])) (y_s := (69, [some (.ref _), some (.int _)], [.int _, .int _, .int _, .ref _], _)) rfl (u_ rfl) ?_
          refine w_t (pc := 69) (e_s := (7, 1, 0, 0, 0, .null, [])) (y_s := (70, [some (.ref _), some (.int _)], [.int (_ + _), .int _, .ref _], _)) rfl (u_ rfl) ?_
          refine w_t (pc := 70) (e_s := (31, 3, 0, 1, 0, .null, [(0, 811), (0, 780), (0, 781), (0, 777)])) (y_s := (73, [some (.ref _), some (.int _)], [.int _, .ref _], _)) rfl (u_ rfl) ?_
          refine w21 (pc := 73) (len_s := 3) rfl ?_
          refine w_t (pc := 76) (e_s := (0, 1, 0, 0, 0, .int 1, [])) (y_s := (77, [some (.ref _), some (.int _)], [.int _], _)) rfl (u_ rfl) ?_
          refine wrI (pc := 77) (len_s := 1) rfl hk ?_
          show wF _ 43 (36, [some (.ref _), some (.int _)], [.int _], _) _
          exact wrI (pc := 36) (len_s := 1) rfl hk t_s
      · replace t_s := t_s.2 c6_s
        refine w_t (pc := 46) (e_s := (3, 1, 0, 0, 0, .null, [])) (y_s := (47, [some (.ref _), some (.int _)], [.ref _], _)) rfl (u_ rfl) ?_
        refine w_t (pc := 47) (e_s := (0, 2, 0, 0, 0, .int 9, [])) (y_s := (49, [some (.ref _), some (.int _)], [.int _, .ref _], _)) rfl (u_ rfl) ?_
        refine w_t (pc := 49) (e_s := (3, 1, 0, 0, 0, .null, [])) (y_s := (50, [some (.ref _), some (.int _)], [.ref _, .int _, .ref _], _)) rfl (u_ rfl) ?_
        refine w20 (pc := 50) (len_s := 3) rfl ?_
        refine w_t (pc := 53) (e_s := (0, 1, 0, 0, 0, .int 3, [])) (y_s := (54, [some (.ref _), some (.int _)], [.int _, .int _, .int _, .ref _], _)) rfl (u_ rfl) ?_
        refine w_t (pc := 54) (e_s := (7, 1, 0, 0, 0, .null, [])) (y_s := (55, [some (.ref _), some (.int _)], [.int (_ + _), .int _, .ref _], _)) rfl (u_ rfl) ?_
        refine w_t (pc := 55) (e_s := (31, 3, 0, 1, 0, .null, [(0, 811), (0, 780), (0, 781), (0, 777)])) (y_s := (58, [some (.ref _), some (.int _)], [.int _, .ref _], _)) rfl (u_ rfl) ?_
        refine w21 (pc := 58) (len_s := 3) rfl ?_
        refine w_t (pc := 61) (e_s := (3, 1, 0, 0, 0, .null, [])) (y_s := (62, [some (.ref _), some (.int _)], [.ref _], _)) rfl (u_ rfl) ?_
        refine w_t (pc := 62) (e_s := (0, 2, 0, 0, 0, .int 9, [])) (y_s := (64, [some (.ref _), some (.int _)], [.int _, .ref _], _)) rfl (u_ rfl) ?_
        refine w_t (pc := 64) (e_s := (3, 1, 0, 0, 0, .null, [])) (y_s := (65, [some (.ref _), some (.int _)], [.ref _, .int _, .ref _], _)) rfl (u_ rfl) ?_
        refine w20 (pc := 65) (len_s := 3) rfl ?_
        refine w_t (pc := 68) (e_s := (0, 1, 0, 0, 0, .int 1, [])) (y_s := (69, [some (.ref _), some (.int _)], [.int _, .int _, .int _, .ref _], _)) rfl (u_ rfl) ?_
        refine w_t (pc := 69) (e_s := (7, 1, 0, 0, 0, .null, [])) (y_s := (70, [some (.ref _), some (.int _)], [.int (_ + _), .int _, .ref _], _)) rfl (u_ rfl) ?_
        refine w_t (pc := 70) (e_s := (31, 3, 0, 1, 0, .null, [(0, 811), (0, 780), (0, 781), (0, 777)])) (y_s := (73, [some (.ref _), some (.int _)], [.int _, .ref _], _)) rfl (u_ rfl) ?_
        refine w21 (pc := 73) (len_s := 3) rfl ?_
        refine w_t (pc := 76) (e_s := (0, 1, 0, 0, 0, .int 1, [])) (y_s := (77, [some (.ref _), some (.int _)], [.int _], _)) rfl (u_ rfl) ?_
        refine wrI (pc := 77) (len_s := 1) rfl hk ?_
        show wF _ 43 (36, [some (.ref _), some (.int _)], [.int _], _) _
        exact wrI (pc := 36) (len_s := 1) rfl hk t_s
  · replace t_s := t_s.2 c1_s
    refine wsc (X_s := 1) rfl (by decide) (fun c8_s => ?_) (fun c8_s => ?_)
    · replace t_s := t_s.1 c8_s
      refine w_t (pc := 37) (e_s := (3, 1, 0, 0, 0, .null, [])) (y_s := (38, [some (.ref _), some (.int _)], [.ref _], _)) rfl (u_ rfl) ?_
      refine w_t (pc := 38) (e_s := (3, 1, 0, 0, 0, .null, [])) (y_s := (39, [some (.ref _), some (.int _)], [.ref _, .ref _], _)) rfl (u_ rfl) ?_
      refine w20 (pc := 39) (len_s := 3) rfl ?_
      refine w_t (pc := 42) (e_s := (0, 1, 0, 0, 0, .int 1, [])) (y_s := (43, [some (.ref _), some (.int _)], [.int _, .int _, .ref _], _)) rfl (u_ rfl) ?_
      refine w_t (pc := 43) (e_s := (7, 1, 0, 0, 0, .null, [])) (y_s := (44, [some (.ref _), some (.int _)], [.int (_ + _), .ref _], _)) rfl (u_ rfl) ?_
      refine wcI (pc := 44) (len_s := 3) rfl rfl (l := [some (.ref _), some (.int _)]) rfl ?_
      refine w_t (pc := 0) (e_s := (3, 1, 0, 0, 0, .null, [])) (y_s := (1, [some (.ref _), some (.int _)], [.ref _], _)) rfl (u_ rfl) ?_
      refine w20 (pc := 1) (len_s := 3) rfl ?_
      refine w_t (pc := 4) (e_s := (0, 1, 0, 0, 0, .int 2, [])) (y_s := (5, [some (.ref _), some (.int _)], [.int _, .int _], _)) rfl (u_ rfl) ?_
      refine wi2 (pc := 5) (len_s := 3) (Y := 2) rfl rfl (by decide) (fun c9_s => ?_) (fun c9_s => ?_)
      · replace t_s := t_s.1 c9_s
        refine w_t (pc := 17) (e_s := (0, 1, 0, 0, 0, .int 0, [])) (y_s := (18, [some (.ref _), some (.int _)], [.int _], _)) rfl (u_ rfl) ?_
        refine wrI (pc := 18) (len_s := 1) rfl hk ?_
        show wF _ 43 (47, [some (.ref _), some (.int _)], [.int _], _) _
        exact wrI (pc := 47) (len_s := 1) rfl hk t_s
      · replace t_s := t_s.2 c9_s
        refine w_t (pc := 8) (e_s := (1, 1, 1, 0, 0, .null, [])) (y_s := (9, [some (.ref _), some (.int _)], [.int _], _)) rfl (u_ rfl) ?_
        refine wq2 (pc := 9) (len_s := 3) rfl rfl (fun c10_s => ?_) (fun c10_s => ?_)
        · replace t_s := t_s.1 c10_s
          refine w_t (pc := 17) (e_s := (0, 1, 0, 0, 0, .int 0, [])) (y_s := (18, [some (.ref _), some (.int _)], [.int _], _)) rfl (u_ rfl) ?_
          refine wrI (pc := 18) (len_s := 1) rfl hk ?_
          show wF _ 43 (47, [some (.ref _), some (.int _)], [.int _], _) _
          exact wrI (pc := 47) (len_s := 1) rfl hk t_s
        · replace t_s := t_s.2 c10_s
          refine w_t (pc := 12) (e_s := (1, 1, 1, 0, 0, .null, [])) (y_s := (13, [some (.ref _), some (.int _)], [.int _], _)) rfl (u_ rfl) ?_
          refine w_t (pc := 13) (e_s := (0, 1, 0, 0, 0, .int 5, [])) (y_s := (14, [some (.ref _), some (.int _)], [.int _, .int _], _)) rfl (u_ rfl) ?_
          refine wi5 (pc := 14) (len_s := 3) (Y := 5) rfl rfl (by decide) (fun c11_s => ?_) (fun c11_s => ?_)
          · replace t_s := t_s.1 c11_s
            refine w_t (pc := 17) (e_s := (0, 1, 0, 0, 0, .int 0, [])) (y_s := (18, [some (.ref _), some (.int _)], [.int _], _)) rfl (u_ rfl) ?_
            refine wrI (pc := 18) (len_s := 1) rfl hk ?_
            show wF _ 43 (47, [some (.ref _), some (.int _)], [.int _], _) _
            exact wrI (pc := 47) (len_s := 1) rfl hk t_s
          · replace t_s := t_s.2 c11_s
            refine w_t (pc := 19) (e_s := (3, 1, 0, 0, 0, .null, [])) (y_s := (20, [some (.ref _), some (.int _)], [.ref _], _)) rfl (u_ rfl) ?_
            refine w_t (pc := 20) (e_s := (1, 1, 1, 0, 0, .null, [])) (y_s := (21, [some (.ref _), some (.int _)], [.int _, .ref _], _)) rfl (u_ rfl) ?_
            refine w21 (pc := 21) (len_s := 3) rfl ?_
            refine w_t (pc := 24) (e_s := (3, 1, 0, 0, 0, .null, [])) (y_s := (25, [some (.ref _), some (.int _)], [.ref _], _)) rfl (u_ rfl) ?_
            refine w_t (pc := 25) (e_s := (0, 1, 0, 0, 0, .int 2, [])) (y_s := (26, [some (.ref _), some (.int _)], [.int _, .ref _], _)) rfl (u_ rfl) ?_
            refine wcV (pc := 26) (len_s := 3) rfl rfl (l := [some (.ref _), some (.int _)]) rfl ?_
            refine w_t (pc := 0) (e_s := (3, 1, 0, 0, 0, .null, [])) (y_s := (1, [some (.ref _), some (.int _)], [.ref _], _)) rfl (u_ rfl) ?_
            refine w_t (pc := 1) (e_s := (0, 1, 0, 0, 0, .int 0, [])) (y_s := (2, [some (.ref _), some (.int _)], [.int _, .ref _], _)) rfl (u_ rfl) ?_
            refine w_t (pc := 2) (e_s := (3, 1, 0, 0, 0, .null, [])) (y_s := (3, [some (.ref _), some (.int _)], [.ref _, .int _, .ref _], _)) rfl (u_ rfl) ?_
            refine w20 (pc := 3) (len_s := 3) rfl ?_
            refine w_t (pc := 6) (e_s := (1, 1, 1, 0, 0, .null, [])) (y_s := (7, [some (.ref _), some (.int _)], [.int _, .int _, .int _, .ref _], _)) rfl (u_ rfl) ?_
            refine w_t (pc := 7) (e_s := (7, 1, 0, 1, 0, .null, [])) (y_s := (8, [some (.ref _), some (.int _)], [.int (_ - _), .int _, .ref _], _)) rfl (u_ rfl) ?_
            refine w_t (pc := 8) (e_s := (31, 3, 0, 0, 0, .null, [(0, 812), (0, 783), (0, 784), (0, 777)])) (y_s := (11, [some (.ref _), some (.int _)], [.int _, .ref _], _)) rfl (u_ rfl) ?_
            refine w21 (pc := 11) (len_s := 3) rfl ?_
            refine wrV (pc := 14) (len_s := 1) rfl hk ?_
            show wF _ 45 (29, [some (.ref _), some (.int _)], [], _) _
            refine w_t (pc := 29) (e_s := (0, 1, 0, 0, 0, .int 1, [])) (y_s := (30, [some (.ref _), some (.int _)], [.int _], _)) rfl (u_ rfl) ?_
            refine wrI (pc := 30) (len_s := 1) rfl hk ?_
            show wF _ 43 (47, [some (.ref _), some (.int _)], [.int _], _) _
            exact wrI (pc := 47) (len_s := 1) rfl hk t_s
    · replace t_s := t_s.2 c8_s
      refine wsc (X_s := 2) rfl (by decide) (fun c12_s => ?_) (fun c12_s => ?_)
      · replace t_s := t_s.1 c12_s
        refine w_t (pc := 48) (e_s := (3, 1, 0, 0, 0, .null, [])) (y_s := (49, [some (.ref _), some (.int _)], [.ref _], _)) rfl (u_ rfl) ?_
        refine w_t (pc := 49) (e_s := (3, 1, 0, 0, 0, .null, [])) (y_s := (50, [some (.ref _), some (.int _)], [.ref _, .ref _], _)) rfl (u_ rfl) ?_
        refine w20 (pc := 50) (len_s := 3) rfl ?_
        refine w_t (pc := 53) (e_s := (0, 1, 0, 0, 0, .int 1, [])) (y_s := (54, [some (.ref _), some (.int _)], [.int _, .int _, .ref _], _)) rfl (u_ rfl) ?_
        refine w_t (pc := 54) (e_s := (7, 1, 0, 1, 0, .null, [])) (y_s := (55, [some (.ref _), some (.int _)], [.int (_ - _), .ref _], _)) rfl (u_ rfl) ?_
        refine wcI (pc := 55) (len_s := 3) rfl rfl (l := [some (.ref _), some (.int _)]) rfl ?_
        refine w_t (pc := 0) (e_s := (3, 1, 0, 0, 0, .null, [])) (y_s := (1, [some (.ref _), some (.int _)], [.ref _], _)) rfl (u_ rfl) ?_
        refine w20 (pc := 1) (len_s := 3) rfl ?_
        refine w_t (pc := 4) (e_s := (0, 1, 0, 0, 0, .int 2, [])) (y_s := (5, [some (.ref _), some (.int _)], [.int _, .int _], _)) rfl (u_ rfl) ?_
        refine wi2 (pc := 5) (len_s := 3) (Y := 2) rfl rfl (by decide) (fun c13_s => ?_) (fun c13_s => ?_)
        · replace t_s := t_s.1 c13_s
          refine w_t (pc := 17) (e_s := (0, 1, 0, 0, 0, .int 0, [])) (y_s := (18, [some (.ref _), some (.int _)], [.int _], _)) rfl (u_ rfl) ?_
          refine wrI (pc := 18) (len_s := 1) rfl hk ?_
          show wF _ 43 (58, [some (.ref _), some (.int _)], [.int _], _) _
          exact wrI (pc := 58) (len_s := 1) rfl hk t_s
        · replace t_s := t_s.2 c13_s
          refine w_t (pc := 8) (e_s := (1, 1, 1, 0, 0, .null, [])) (y_s := (9, [some (.ref _), some (.int _)], [.int _], _)) rfl (u_ rfl) ?_
          refine wq2 (pc := 9) (len_s := 3) rfl rfl (fun c14_s => ?_) (fun c14_s => ?_)
          · replace t_s := t_s.1 c14_s
            refine w_t (pc := 17) (e_s := (0, 1, 0, 0, 0, .int 0, [])) (y_s := (18, [some (.ref _), some (.int _)], [.int _], _)) rfl (u_ rfl) ?_
            refine wrI (pc := 18) (len_s := 1) rfl hk ?_
            show wF _ 43 (58, [some (.ref _), some (.int _)], [.int _], _) _
            exact wrI (pc := 58) (len_s := 1) rfl hk t_s
          · replace t_s := t_s.2 c14_s
            refine w_t (pc := 12) (e_s := (1, 1, 1, 0, 0, .null, [])) (y_s := (13, [some (.ref _), some (.int _)], [.int _], _)) rfl (u_ rfl) ?_
            refine w_t (pc := 13) (e_s := (0, 1, 0, 0, 0, .int 5, [])) (y_s := (14, [some (.ref _), some (.int _)], [.int _, .int _], _)) rfl (u_ rfl) ?_
            refine wi5 (pc := 14) (len_s := 3) (Y := 5) rfl rfl (by decide) (fun c15_s => ?_) (fun c15_s => ?_)
            · replace t_s := t_s.1 c15_s
              refine w_t (pc := 17) (e_s := (0, 1, 0, 0, 0, .int 0, [])) (y_s := (18, [some (.ref _), some (.int _)], [.int _], _)) rfl (u_ rfl) ?_
              refine wrI (pc := 18) (len_s := 1) rfl hk ?_
              show wF _ 43 (58, [some (.ref _), some (.int _)], [.int _], _) _
              exact wrI (pc := 58) (len_s := 1) rfl hk t_s
            · replace t_s := t_s.2 c15_s
              refine w_t (pc := 19) (e_s := (3, 1, 0, 0, 0, .null, [])) (y_s := (20, [some (.ref _), some (.int _)], [.ref _], _)) rfl (u_ rfl) ?_
              refine w_t (pc := 20) (e_s := (1, 1, 1, 0, 0, .null, [])) (y_s := (21, [some (.ref _), some (.int _)], [.int _, .ref _], _)) rfl (u_ rfl) ?_
              refine w21 (pc := 21) (len_s := 3) rfl ?_
              refine w_t (pc := 24) (e_s := (3, 1, 0, 0, 0, .null, [])) (y_s := (25, [some (.ref _), some (.int _)], [.ref _], _)) rfl (u_ rfl) ?_
              refine w_t (pc := 25) (e_s := (0, 1, 0, 0, 0, .int 2, [])) (y_s := (26, [some (.ref _), some (.int _)], [.int _, .ref _], _)) rfl (u_ rfl) ?_
              refine wcV (pc := 26) (len_s := 3) rfl rfl (l := [some (.ref _), some (.int _)]) rfl ?_
              refine w_t (pc := 0) (e_s := (3, 1, 0, 0, 0, .null, [])) (y_s := (1, [some (.ref _), some (.int _)], [.ref _], _)) rfl (u_ rfl) ?_
              refine w_t (pc := 1) (e_s := (0, 1, 0, 0, 0, .int 0, [])) (y_s := (2, [some (.ref _), some (.int _)], [.int _, .ref _], _)) rfl (u_ rfl) ?_
              refine w_t (pc := 2) (e_s := (3, 1, 0, 0, 0, .null, [])) (y_s := (3, [some (.ref _), some (.int _)], [.ref _, .int _, .ref _], _)) rfl (u_ rfl) ?_
              refine w20 (pc := 3) (len_s := 3) rfl ?_
              refine w_t (pc := 6) (e_s := (1, 1, 1, 0, 0, .null, [])) (y_s := (7, [some (.ref _), some (.int _)], [.int _, .int _, .int _, .ref _], _)) rfl (u_ rfl) ?_
              refine w_t (pc := 7) (e_s := (7, 1, 0, 1, 0, .null, [])) (y_s := (8, [some (.ref _), some (.int _)], [.int (_ - _), .int _, .ref _], _)) rfl (u_ rfl) ?_
              refine w_t (pc := 8) (e_s := (31, 3, 0, 0, 0, .null, [(0, 812), (0, 783), (0, 784), (0, 777)])) (y_s := (11, [some (.ref _), some (.int _)], [.int _, .ref _], _)) rfl (u_ rfl) ?_
              refine w21 (pc := 11) (len_s := 3) rfl ?_
              refine wrV (pc := 14) (len_s := 1) rfl hk ?_
              show wF _ 45 (29, [some (.ref _), some (.int _)], [], _) _
              refine w_t (pc := 29) (e_s := (0, 1, 0, 0, 0, .int 1, [])) (y_s := (30, [some (.ref _), some (.int _)], [.int _], _)) rfl (u_ rfl) ?_
              refine wrI (pc := 30) (len_s := 1) rfl hk ?_
              show wF _ 43 (58, [some (.ref _), some (.int _)], [.int _], _) _
              exact wrI (pc := 58) (len_s := 1) rfl hk t_s
      · replace t_s := t_s.2 c12_s
        refine wsc (X_s := 3) rfl (by decide) (fun c16 => ?_) (fun c16 => ?_)
        · replace t_s := t_s.1 c16
          refine w_t (pc := 59) (e_s := (3, 1, 0, 0, 0, .null, [])) (y_s := (60, [some (.ref _), some (.int _)], [.ref _], _)) rfl (u_ rfl) ?_
          refine wcI (pc := 60) (len_s := 3) rfl rfl (l := [some (.ref _)]) rfl ?_
          refine w_t (pc := 0) (e_s := (3, 1, 0, 0, 0, .null, [])) (y_s := (1, [some (.ref _)], [.ref _], _)) rfl (u_ rfl) ?_
          refine w20 (pc := 1) (len_s := 3) rfl ?_
          refine w_t (pc := 4) (e_s := (0, 1, 0, 0, 0, .int 1, [])) (y_s := (5, [some (.ref _)], [.int _, .int _], _)) rfl (u_ rfl) ?_
          refine wi3 (pc := 5) (len_s := 3) (Y := 1) rfl rfl (by decide) (fun c17 => ?_) (fun c17 => ?_)
          · replace t_s := t_s.1 c17
            refine w_t (pc := 8) (e_s := (0, 1, 0, 0, 0, .int 0, [])) (y_s := (9, [some (.ref _)], [.int _], _)) rfl (u_ rfl) ?_
            refine wrI (pc := 9) (len_s := 1) rfl hk ?_
            show wF _ 43 (63, [some (.ref _), some (.int _)], [.int _], _) _
            exact wrI (pc := 63) (len_s := 1) rfl hk t_s
          · replace t_s := t_s.2 c17
            refine w_t (pc := 10) (e_s := (3, 1, 0, 0, 0, .null, [])) (y_s := (11, [some (.ref _)], [.ref _], _)) rfl (u_ rfl) ?_
            refine w_t (pc := 11) (e_s := (0, 1, 0, 0, 0, .int 0, [])) (y_s := (12, [some (.ref _)], [.int _, .ref _], _)) rfl (u_ rfl) ?_
            refine w_t (pc := 12) (e_s := (3, 1, 0, 0, 0, .null, [])) (y_s := (13, [some (.ref _)], [.ref _, .int _, .ref _], _)) rfl (u_ rfl) ?_
            refine w20 (pc := 13) (len_s := 3) rfl ?_
            refine w_t (pc := 16) (e_s := (0, 2, 0, 0, 0, .int 10, [])) (y_s := (18, [some (.ref _)], [.int _, .int _, .int _, .ref _], _)) rfl (u_ rfl) ?_
            refine w_t (pc := 18) (e_s := (7, 1, 0, 1, 0, .null, [])) (y_s := (19, [some (.ref _)], [.int (_ - _), .int _, .ref _], _)) rfl (u_ rfl) ?_
            refine w_t (pc := 19) (e_s := (31, 3, 0, 0, 0, .null, [(0, 812), (0, 783), (0, 784), (0, 777)])) (y_s := (22, [some (.ref _)], [.int _, .ref _], _)) rfl (u_ rfl) ?_
            refine w21 (pc := 22) (len_s := 3) rfl ?_
            refine w_t (pc := 25) (e_s := (3, 1, 0, 0, 0, .null, [])) (y_s := (26, [some (.ref _)], [.ref _], _)) rfl (u_ rfl) ?_
            refine w_t (pc := 26) (e_s := (0, 1, 0, 0, 0, .int 1, [])) (y_s := (27, [some (.ref _)], [.int _, .ref _], _)) rfl (u_ rfl) ?_
            refine wcV (pc := 27) (len_s := 3) rfl rfl (l := [some (.ref _), some (.int _)]) rfl ?_
            refine w_t (pc := 0) (e_s := (3, 1, 0, 0, 0, .null, [])) (y_s := (1, [some (.ref _), some (.int _)], [.ref _], _)) rfl (u_ rfl) ?_
            refine w_t (pc := 1) (e_s := (0, 1, 0, 0, 0, .int 0, [])) (y_s := (2, [some (.ref _), some (.int _)], [.int _, .ref _], _)) rfl (u_ rfl) ?_
            refine w_t (pc := 2) (e_s := (3, 1, 0, 0, 0, .null, [])) (y_s := (3, [some (.ref _), some (.int _)], [.ref _, .int _, .ref _], _)) rfl (u_ rfl) ?_
            refine w20 (pc := 3) (len_s := 3) rfl ?_
            refine w_t (pc := 6) (e_s := (1, 1, 1, 0, 0, .null, [])) (y_s := (7, [some (.ref _), some (.int _)], [.int _, .int _, .int _, .ref _], _)) rfl (u_ rfl) ?_
            refine w_t (pc := 7) (e_s := (7, 1, 0, 1, 0, .null, [])) (y_s := (8, [some (.ref _), some (.int _)], [.int (_ - _), .int _, .ref _], _)) rfl (u_ rfl) ?_
            refine w_t (pc := 8) (e_s := (31, 3, 0, 0, 0, .null, [(0, 812), (0, 783), (0, 784), (0, 777)])) (y_s := (11, [some (.ref _), some (.int _)], [.int _, .ref _], _)) rfl (u_ rfl) ?_
            refine w21 (pc := 11) (len_s := 3) rfl ?_
            refine wrV (pc := 14) (len_s := 1) rfl hk ?_
            show wF _ 46 (30, [some (.ref _)], [], _) _
            refine w_t (pc := 30) (e_s := (0, 1, 0, 0, 0, .int 1, [])) (y_s := (31, [some (.ref _)], [.int _], _)) rfl (u_ rfl) ?_
            refine wrI (pc := 31) (len_s := 1) rfl hk ?_
            show wF _ 43 (63, [some (.ref _), some (.int _)], [.int _], _) _
            exact wrI (pc := 63) (len_s := 1) rfl hk t_s
        · replace t_s := t_s.2 c16
          show wF _ _ (64, _, _, _) _
          refine w_t (pc := 64) (e_s := (0, 1, 0, 0, 0, .int 0, [])) (y_s := (65, [some (.ref _), some (.int _)], [.int _], _)) rfl (u_ rfl) ?_
          exact wrI (pc := 65) (len_s := 1) rfl hk t_s
/-- ColdShodModel.strikes(I)Z, from 0 on -/
theorem sg_184_0 {F_s : Nat} {x1_s : Int32} {h_s : zH} {K_s : Int32 → zH → Prop} (hk : hKn h_s) (t_s : (x1_s.toInt = 0 → (((h_s.2.1 112 4).toInt = 1 → ((0 < (h_s.2.1 112 5).toInt → K_s 0 h_s) ∧ (¬ 0 < (h_s.2.1 112 5).toInt → ((6 < (h_s.2.1 112 3).toInt → ((8 < (h_s.2.1 112 5).toInt → K_s 1 (h_s.1, zup (zup h_s.2.1 112 3 9) 112 5 9, h_s.2.2.1, h_s.2.2.2)) ∧ (¬ 8 < (h_s.2.1 112 5).toInt → K_s 1 (h_s.1, zup (zup h_s.2.1 112 3 9) 112 5 ((h_s.2.1 112 5) + 1), h_s.2.2.1, h_s.2.2.2)))) ∧ (¬ 6 < (h_s.2.1 112 3).toInt → ((8 < (h_s.2.1 112 5).toInt → K_s 1 (h_s.1, zup (zup h_s.2.1 112 3 ((h_s.2.1 112 3) + 3)) 112 5 9, h_s.2.2.1, h_s.2.2.2)) ∧ (¬ 8 < (h_s.2.1 112 5).toInt → K_s 1 (h_s.1, zup (zup h_s.2.1 112 3 ((h_s.2.1 112 3) + 3)) 112 5 ((h_s.2.1 112 5) + 1), h_s.2.2.1, h_s.2.2.2)))))))) ∧ (¬ (h_s.2.1 112 4).toInt = 1 → ((6 < (h_s.2.1 112 3).toInt → ((8 < (h_s.2.1 112 5).toInt → K_s 1 (h_s.1, zup (zup h_s.2.1 112 3 9) 112 5 9, h_s.2.2.1, h_s.2.2.2)) ∧ (¬ 8 < (h_s.2.1 112 5).toInt → K_s 1 (h_s.1, zup (zup h_s.2.1 112 3 9) 112 5 ((h_s.2.1 112 5) + 1), h_s.2.2.1, h_s.2.2.2)))) ∧ (¬ 6 < (h_s.2.1 112 3).toInt → ((8 < (h_s.2.1 112 5).toInt → K_s 1 (h_s.1, zup (zup h_s.2.1 112 3 ((h_s.2.1 112 3) + 3)) 112 5 9, h_s.2.2.1, h_s.2.2.2)) ∧ (¬ 8 < (h_s.2.1 112 5).toInt → K_s 1 (h_s.1, zup (zup h_s.2.1 112 3 ((h_s.2.1 112 3) + 3)) 112 5 ((h_s.2.1 112 5) + 1), h_s.2.2.1, h_s.2.2.2)))))))) ∧ (¬ x1_s.toInt = 0 → (x1_s.toInt = 3 → (((h_s.2.1 112 3).toInt < 1 → K_s 0 h_s) ∧ (¬ (h_s.2.1 112 3).toInt < 1 → (((h_s.2.1 112 2).toInt < 10 → K_s 1 (h_s.1, zup (zup h_s.2.1 112 3 ((h_s.2.1 112 3) - 1)) 112 2 0, h_s.2.2.1, h_s.2.2.2)) ∧ (¬ (h_s.2.1 112 2).toInt < 10 → K_s 1 (h_s.1, zup (zup h_s.2.1 112 3 ((h_s.2.1 112 3) - 1)) 112 2 ((h_s.2.1 112 2) - 10), h_s.2.2.1, h_s.2.2.2)))))) ∧ (¬ x1_s.toInt = 3 → ((x1_s.toInt = 1 → (((h_s.2.1 112 3).toInt < 2 → K_s 0 h_s) ∧ (¬ (h_s.2.1 112 3).toInt < 2 → ((((h_s.2.1 112 1) + 1).toInt < 0 → K_s 0 h_s) ∧ (¬ ((h_s.2.1 112 1) + 1).toInt < 0 → ((5 < ((h_s.2.1 112 1) + 1).toInt → K_s 0 h_s) ∧ (¬ 5 < ((h_s.2.1 112 1) + 1).toInt → K_s 1 (h_s.1, zup (zup h_s.2.1 112 3 ((h_s.2.1 112 3) - 2)) 112 1 ((h_s.2.1 112 1) + 1), h_s.2.2.1, h_s.2.2.2)))))))) ∧ (¬ x1_s.toInt = 1 → (((h_s.2.1 112 3).toInt < 2 → K_s 0 h_s) ∧ (¬ (h_s.2.1 112 3).toInt < 2 → ((((h_s.2.1 112 1) + (-1)).toInt < 0 → K_s 0 h_s) ∧ (¬ ((h_s.2.1 112 1) + (-1)).toInt < 0 → ((5 < ((h_s.2.1 112 1) + (-1)).toInt → K_s 0 h_s) ∧ (¬ 5 < ((h_s.2.1 112 1) + (-1)).toInt → K_s 1 (h_s.1, zup (zup h_s.2.1 112 3 ((h_s.2.1 112 3) - 2)) 112 1 ((h_s.2.1 112 1) + (-1)), h_s.2.2.1, h_s.2.2.2)))))))))))) : wF (F_s + 1) 184 (0, [some (.ref 102), some (.int x1_s)], [], h_s) (gI K_s) := by
  refine w_0 (pc := 0) (e_s := (1, 1, 1, 0, 0, .null, [])) (y_s := (1, [some (.ref _), some (.int _)], [.int _], _)) rfl (u_ rfl) ?_
  refine wsw (pc := 1) (len_s := 27) rfl ?_
  refine wsc (X_s := 0) rfl (by decide) (fun c1_s => ?_) (fun c1_s => ?_)
  · replace t_s := t_s.1 c1_s
    refine w_t (pc := 28) (e_s := (3, 1, 0, 0, 0, .null, [])) (y_s := (29, [some (.ref _), some (.int _)], [.ref _], _)) rfl (u_ rfl) ?_
    refine w20r (pc := 29) (len_s := 3) (q_s := 112) rfl (krq hk rfl) ?_
    refine w_t (pc := 32) (e_s := (0, 1, 0, 0, 0, .int 4, [])) (y_s := (33, [some (.ref _), some (.int _)], [.int _, .ref _], _)) rfl (u_ rfl) ?_
    refine w22 (pc := 33) (len_s := 1) rfl (hk.1 112 0 7 rfl rfl) (fun c2_s => ?_)
    refine w_t (pc := 34) (e_s := (0, 1, 0, 0, 0, .int 1, [])) (y_s := (35, [some (.ref _), some (.int _)], [.int _, .int _], _)) rfl (u_ rfl) ?_
    refine wi1 (pc := 35) (len_s := 3) (Y := 1) rfl rfl (by decide) (fun c3_s => ?_) (fun c3_s => ?_)
    · replace t_s := t_s.1 c3_s
      refine w_t (pc := 38) (e_s := (3, 1, 0, 0, 0, .null, [])) (y_s := (39, [some (.ref _), some (.int _)], [.ref _], _)) rfl (u_ rfl) ?_
      refine w20r (pc := 39) (len_s := 3) (q_s := 112) rfl (krq hk rfl) ?_
      refine w_t (pc := 42) (e_s := (0, 1, 0, 0, 0, .int 5, [])) (y_s := (43, [some (.ref _), some (.int _)], [.int _, .ref _], _)) rfl (u_ rfl) ?_
      refine w22 (pc := 43) (len_s := 1) rfl (hk.1 112 0 7 rfl rfl) (fun c4_s => ?_)
      refine wq5 (pc := 44) (len_s := 3) rfl rfl (fun c5_s => ?_) (fun c5_s => ?_)
      · replace t_s := t_s.1 c5_s
        refine w_t (pc := 47) (e_s := (0, 1, 0, 0, 0, .int 0, [])) (y_s := (48, [some (.ref _), some (.int _)], [.int _], _)) rfl (u_ rfl) ?_
        exact wrI (pc := 48) (len_s := 1) rfl hk t_s
      · replace t_s := t_s.2 c5_s
        refine w_t (pc := 49) (e_s := (3, 1, 0, 0, 0, .null, [])) (y_s := (50, [some (.ref _), some (.int _)], [.ref _], _)) rfl (u_ rfl) ?_
        refine w20r (pc := 50) (len_s := 3) (q_s := 112) rfl (krq hk rfl) ?_
        refine w_t (pc := 53) (e_s := (0, 1, 0, 0, 0, .int 3, [])) (y_s := (54, [some (.ref _), some (.int _)], [.int _, .ref _], _)) rfl (u_ rfl) ?_
        refine w_t (pc := 54) (e_s := (3, 1, 0, 0, 0, .null, [])) (y_s := (55, [some (.ref _), some (.int _)], [.ref _, .int _, .ref _], _)) rfl (u_ rfl) ?_
        refine w20r (pc := 55) (len_s := 3) (q_s := 112) rfl (krq hk rfl) ?_
        refine w_t (pc := 58) (e_s := (0, 1, 0, 0, 0, .int 3, [])) (y_s := (59, [some (.ref _), some (.int _)], [.int _, .ref _, .int _, .ref _], _)) rfl (u_ rfl) ?_
        refine w22 (pc := 59) (len_s := 1) rfl (hk.1 112 0 7 rfl rfl) (fun c6_s => ?_)
        refine w_t (pc := 60) (e_s := (0, 2, 0, 0, 0, .int 6, [])) (y_s := (62, [some (.ref _), some (.int _)], [.int _, .int _, .int _, .ref _], _)) rfl (u_ rfl) ?_
        refine wi5 (pc := 62) (len_s := 3) (Y := 6) rfl rfl (by decide) (fun c7_s => ?_) (fun c7_s => ?_)
        · replace t_s := t_s.1 c7_s
          refine w_t (pc := 65) (e_s := (0, 2, 0, 0, 0, .int 9, [])) (y_s := (67, [some (.ref _), some (.int _)], [.int _, .int _, .ref _], _)) rfl (u_ rfl) ?_
          refine w_t (pc := 67) (e_s := (17, 3, 78, 0, 0, .null, [])) (y_s := (78, [some (.ref _), some (.int _)], [.int _, .int _, .ref _], _)) rfl (u_ rfl) ?_
          refine w25 (pc := 78) (len_s := 1) rfl (hk.1 112 0 7 rfl rfl) (fun c8_s => ?_)
          refine w_t (pc := 79) (e_s := (3, 1, 0, 0, 0, .null, [])) (y_s := (80, [some (.ref _), some (.int _)], [.ref _], _)) rfl (u_ rfl) ?_
          refine w20r (pc := 80) (len_s := 3) (q_s := 112) rfl (krq hk rfl) ?_
          refine w_t (pc := 83) (e_s := (0, 1, 0, 0, 0, .int 5, [])) (y_s := (84, [some (.ref _), some (.int _)], [.int _, .ref _], _)) rfl (u_ rfl) ?_
          refine w_t (pc := 84) (e_s := (3, 1, 0, 0, 0, .null, [])) (y_s := (85, [some (.ref _), some (.int _)], [.ref _, .int _, .ref _], _)) rfl (u_ rfl) ?_
          refine w20r (pc := 85) (len_s := 3) (q_s := 112) rfl (krq hk rfl) ?_
          refine w_t (pc := 88) (e_s := (0, 1, 0, 0, 0, .int 5, [])) (y_s := (89, [some (.ref _), some (.int _)], [.int _, .ref _, .int _, .ref _], _)) rfl (u_ rfl) ?_
          refine w22 (pc := 89) (len_s := 1) rfl (hk.1 112 0 7 rfl rfl) (fun c9_s => ?_)
          refine w_t (pc := 90) (e_s := (0, 2, 0, 0, 0, .int 8, [])) (y_s := (92, [some (.ref _), some (.int _)], [.int _, .int _, .int _, .ref _], _)) rfl (u_ rfl) ?_
          refine wi5 (pc := 92) (len_s := 3) (Y := 8) rfl rfl (by decide) (fun c10_s => ?_) (fun c10_s => ?_)
          · replace t_s := t_s.1 c10_s
            refine w_t (pc := 95) (e_s := (0, 2, 0, 0, 0, .int 9, [])) (y_s := (97, [some (.ref _), some (.int _)], [.int _, .int _, .ref _], _)) rfl (u_ rfl) ?_
            refine w_t (pc := 97) (e_s := (17, 3, 108, 0, 0, .null, [])) (y_s := (108, [some (.ref _), some (.int _)], [.int _, .int _, .ref _], _)) rfl (u_ rfl) ?_
            refine w25 (pc := 108) (len_s := 1) rfl (hk.1 112 0 7 rfl rfl) (fun c11_s => ?_)
            refine w_t (pc := 109) (e_s := (0, 1, 0, 0, 0, .int 1, [])) (y_s := (110, [some (.ref _), some (.int _)], [.int _], _)) rfl (u_ rfl) ?_
            exact wrI (pc := 110) (len_s := 1) rfl hk t_s
          · replace t_s := t_s.2 c10_s
            refine w_t (pc := 100) (e_s := (3, 1, 0, 0, 0, .null, [])) (y_s := (101, [some (.ref _), some (.int _)], [.ref _, .int _, .ref _], _)) rfl (u_ rfl) ?_
            refine w20r (pc := 101) (len_s := 3) (q_s := 112) rfl (krq hk rfl) ?_
            refine w_t (pc := 104) (e_s := (0, 1, 0, 0, 0, .int 5, [])) (y_s := (105, [some (.ref _), some (.int _)], [.int _, .ref _, .int _, .ref _], _)) rfl (u_ rfl) ?_
            refine w22 (pc := 105) (len_s := 1) rfl (hk.1 112 0 7 rfl rfl) (fun c12_s => ?_)
            refine w_t (pc := 106) (e_s := (0, 1, 0, 0, 0, .int 1, [])) (y_s := (107, [some (.ref _), some (.int _)], [.int _, .int _, .int _, .ref _], _)) rfl (u_ rfl) ?_
            refine w_t (pc := 107) (e_s := (7, 1, 0, 0, 0, .null, [])) (y_s := (108, [some (.ref _), some (.int _)], [.int (_ + _), .int _, .ref _], _)) rfl (u_ rfl) ?_
            refine w25 (pc := 108) (len_s := 1) rfl (hk.1 112 0 7 rfl rfl) (fun c13_s => ?_)
            refine w_t (pc := 109) (e_s := (0, 1, 0, 0, 0, .int 1, [])) (y_s := (110, [some (.ref _), some (.int _)], [.int _], _)) rfl (u_ rfl) ?_
            exact wrI (pc := 110) (len_s := 1) rfl hk t_s
        · replace t_s := t_s.2 c7_s
          refine w_t (pc := 70) (e_s := (3, 1, 0, 0, 0, .null, [])) (y_s := (71, [some (.ref _), some (.int _)], [.ref _, .int _, .ref _], _)) rfl (u_ rfl) ?_
          refine w20r (pc := 71) (len_s := 3) (q_s := 112) rfl (krq hk rfl) ?_
          refine w_t (pc := 74) (e_s := (0, 1, 0, 0, 0, .int 3, [])) (y_s := (75, [some (.ref _), some (.int _)], [.int _, .ref _, .int _, .ref _], _)) rfl (u_ rfl) ?_
          refine w22 (pc := 75) (len_s := 1) rfl (hk.1 112 0 7 rfl rfl) (fun c14_s => ?_)
          refine w_t (pc := 76) (e_s := (0, 1, 0, 0, 0, .int 3, [])) (y_s := (77, [some (.ref _), some (.int _)], [.int _, .int _, .int _, .ref _], _)) rfl (u_ rfl) ?_
          refine w_t (pc := 77) (e_s := (7, 1, 0, 0, 0, .null, [])) (y_s := (78, [some (.ref _), some (.int _)], [.int (_ + _), .int _, .ref _], _)) rfl (u_ rfl) ?_
          refine w25 (pc := 78) (len_s := 1) rfl (hk.1 112 0 7 rfl rfl) (fun c15_s => ?_)
          refine w_t (pc := 79) (e_s := (3, 1, 0, 0, 0, .null, [])) (y_s := (80, [some (.ref _), some (.int _)], [.ref _], _)) rfl (u_ rfl) ?_
          refine w20r (pc := 80) (len_s := 3) (q_s := 112) rfl (krq hk rfl) ?_
          refine w_t (pc := 83) (e_s := (0, 1, 0, 0, 0, .int 5, [])) (y_s := (84, [some (.ref _), some (.int _)], [.int _, .ref _], _)) rfl (u_ rfl) ?_
          refine w_t (pc := 84) (e_s := (3, 1, 0, 0, 0, .null, [])) (y_s := (85, [some (.ref _), some (.int _)], [.ref _, .int _, .ref _], _)) rfl (u_ rfl) ?_
          refine w20r (pc := 85) (len_s := 3) (q_s := 112) rfl (krq hk rfl) ?_
          refine w_t (pc := 88) (e_s := (0, 1, 0, 0, 0, .int 5, [])) (y_s := (89, [some (.ref _), some (.int _)], [.int _, .ref _, .int _, .ref _], _)) rfl (u_ rfl) ?_
          refine w22 (pc := 89) (len_s := 1) rfl (hk.1 112 0 7 rfl rfl) (fun c16 => ?_)
          refine w_t (pc := 90) (e_s := (0, 2, 0, 0, 0, .int 8, [])) (y_s := (92, [some (.ref _), some (.int _)], [.int _, .int _, .int _, .ref _], _)) rfl (u_ rfl) ?_
          refine wi5 (pc := 92) (len_s := 3) (Y := 8) rfl rfl (by decide) (fun c17 => ?_) (fun c17 => ?_)
          · replace t_s := t_s.1 c17
            refine w_t (pc := 95) (e_s := (0, 2, 0, 0, 0, .int 9, [])) (y_s := (97, [some (.ref _), some (.int _)], [.int _, .int _, .ref _], _)) rfl (u_ rfl) ?_
            refine w_t (pc := 97) (e_s := (17, 3, 108, 0, 0, .null, [])) (y_s := (108, [some (.ref _), some (.int _)], [.int _, .int _, .ref _], _)) rfl (u_ rfl) ?_
            refine w25 (pc := 108) (len_s := 1) rfl (hk.1 112 0 7 rfl rfl) (fun c18_s => ?_)
            refine w_t (pc := 109) (e_s := (0, 1, 0, 0, 0, .int 1, [])) (y_s := (110, [some (.ref _), some (.int _)], [.int _], _)) rfl (u_ rfl) ?_
            exact wrI (pc := 110) (len_s := 1) rfl hk t_s
          · replace t_s := t_s.2 c17
            refine w_t (pc := 100) (e_s := (3, 1, 0, 0, 0, .null, [])) (y_s := (101, [some (.ref _), some (.int _)], [.ref _, .int _, .ref _], _)) rfl (u_ rfl) ?_
            refine w20r (pc := 101) (len_s := 3) (q_s := 112) rfl (krq hk rfl) ?_
            refine w_t (pc := 104) (e_s := (0, 1, 0, 0, 0, .int 5, [])) (y_s := (105, [some (.ref _), some (.int _)], [.int _, .ref _, .int _, .ref _], _)) rfl (u_ rfl) ?_
            refine w22 (pc := 105) (len_s := 1) rfl (hk.1 112 0 7 rfl rfl) (fun c19_s => ?_)
            refine w_t (pc := 106) (e_s := (0, 1, 0, 0, 0, .int 1, [])) (y_s := (107, [some (.ref _), some (.int _)], [.int _, .int _, .int _, .ref _], _)) rfl (u_ rfl) ?_
            refine w_t (pc := 107) (e_s := (7, 1, 0, 0, 0, .null, [])) (y_s := (108, [some (.ref _), some (.int _)], [.int (_ + _), .int _, .ref _], _)) rfl (u_ rfl) ?_
            refine w25 (pc := 108) (len_s := 1) rfl (hk.1 112 0 7 rfl rfl) (fun c20_s => ?_)
            refine w_t (pc := 109) (e_s := (0, 1, 0, 0, 0, .int 1, [])) (y_s := (110, [some (.ref _), some (.int _)], [.int _], _)) rfl (u_ rfl) ?_
            exact wrI (pc := 110) (len_s := 1) rfl hk t_s
    · replace t_s := t_s.2 c3_s
      refine w_t (pc := 49) (e_s := (3, 1, 0, 0, 0, .null, [])) (y_s := (50, [some (.ref _), some (.int _)], [.ref _], _)) rfl (u_ rfl) ?_
      refine w20r (pc := 50) (len_s := 3) (q_s := 112) rfl (krq hk rfl) ?_
      refine w_t (pc := 53) (e_s := (0, 1, 0, 0, 0, .int 3, [])) (y_s := (54, [some (.ref _), some (.int _)], [.int _, .ref _], _)) rfl (u_ rfl) ?_
      refine w_t (pc := 54) (e_s := (3, 1, 0, 0, 0, .null, [])) (y_s := (55, [some (.ref _), some (.int _)], [.ref _, .int _, .ref _], _)) rfl (u_ rfl) ?_
      refine w20r (pc := 55) (len_s := 3) (q_s := 112) rfl (krq hk rfl) ?_
      refine w_t (pc := 58) (e_s := (0, 1, 0, 0, 0, .int 3, [])) (y_s := (59, [some (.ref _), some (.int _)], [.int _, .ref _, .int _, .ref _], _)) rfl (u_ rfl) ?_
      refine w22 (pc := 59) (len_s := 1) rfl (hk.1 112 0 7 rfl rfl) (fun c21 => ?_)
      refine w_t (pc := 60) (e_s := (0, 2, 0, 0, 0, .int 6, [])) (y_s := (62, [some (.ref _), some (.int _)], [.int _, .int _, .int _, .ref _], _)) rfl (u_ rfl) ?_
      refine wi5 (pc := 62) (len_s := 3) (Y := 6) rfl rfl (by decide) (fun c22 => ?_) (fun c22 => ?_)
      · replace t_s := t_s.1 c22
        refine w_t (pc := 65) (e_s := (0, 2, 0, 0, 0, .int 9, [])) (y_s := (67, [some (.ref _), some (.int _)], [.int _, .int _, .ref _], _)) rfl (u_ rfl) ?_
        refine w_t (pc := 67) (e_s := (17, 3, 78, 0, 0, .null, [])) (y_s := (78, [some (.ref _), some (.int _)], [.int _, .int _, .ref _], _)) rfl (u_ rfl) ?_
        refine w25 (pc := 78) (len_s := 1) rfl (hk.1 112 0 7 rfl rfl) (fun c23_s => ?_)
        refine w_t (pc := 79) (e_s := (3, 1, 0, 0, 0, .null, [])) (y_s := (80, [some (.ref _), some (.int _)], [.ref _], _)) rfl (u_ rfl) ?_
        refine w20r (pc := 80) (len_s := 3) (q_s := 112) rfl (krq hk rfl) ?_
        refine w_t (pc := 83) (e_s := (0, 1, 0, 0, 0, .int 5, [])) (y_s := (84, [some (.ref _), some (.int _)], [.int _, .ref _], _)) rfl (u_ rfl) ?_
        refine w_t (pc := 84) (e_s := (3, 1, 0, 0, 0, .null, [])) (y_s := (85, [some (.ref _), some (.int _)], [.ref _, .int _, .ref _], _)) rfl (u_ rfl) ?_
        refine w20r (pc := 85) (len_s := 3) (q_s := 112) rfl (krq hk rfl) ?_
        refine w_t (pc := 88) (e_s := (0, 1, 0, 0, 0, .int 5, [])) (y_s := (89, [some (.ref _), some (.int _)], [.int _, .ref _, .int _, .ref _], _)) rfl (u_ rfl) ?_
        refine w22 (pc := 89) (len_s := 1) rfl (hk.1 112 0 7 rfl rfl) (fun c24_s => ?_)
        refine w_t (pc := 90) (e_s := (0, 2, 0, 0, 0, .int 8, [])) (y_s := (92, [some (.ref _), some (.int _)], [.int _, .int _, .int _, .ref _], _)) rfl (u_ rfl) ?_
        refine wi5 (pc := 92) (len_s := 3) (Y := 8) rfl rfl (by decide) (fun c25_s => ?_) (fun c25_s => ?_)
        · replace t_s := t_s.1 c25_s
          refine w_t (pc := 95) (e_s := (0, 2, 0, 0, 0, .int 9, [])) (y_s := (97, [some (.ref _), some (.int _)], [.int _, .int _, .ref _], _)) rfl (u_ rfl) ?_
          refine w_t (pc := 97) (e_s := (17, 3, 108, 0, 0, .null, [])) (y_s := (108, [some (.ref _), some (.int _)], [.int _, .int _, .ref _], _)) rfl (u_ rfl) ?_
          refine w25 (pc := 108) (len_s := 1) rfl (hk.1 112 0 7 rfl rfl) (fun c26 => ?_)
          refine w_t (pc := 109) (e_s := (0, 1, 0, 0, 0, .int 1, [])) (y_s := (110, [some (.ref _), some (.int _)], [.int _], _)) rfl (u_ rfl) ?_
          exact wrI (pc := 110) (len_s := 1) rfl hk t_s
        · replace t_s := t_s.2 c25_s
          refine w_t (pc := 100) (e_s := (3, 1, 0, 0, 0, .null, [])) (y_s := (101, [some (.ref _), some (.int _)], [.ref _, .int _, .ref _], _)) rfl (u_ rfl) ?_
          refine w20r (pc := 101) (len_s := 3) (q_s := 112) rfl (krq hk rfl) ?_
          refine w_t (pc := 104) (e_s := (0, 1, 0, 0, 0, .int 5, [])) (y_s := (105, [some (.ref _), some (.int _)], [.int _, .ref _, .int _, .ref _], _)) rfl (u_ rfl) ?_
          refine w22 (pc := 105) (len_s := 1) rfl (hk.1 112 0 7 rfl rfl) (fun c27_s => ?_)
          refine w_t (pc := 106) (e_s := (0, 1, 0, 0, 0, .int 1, [])) (y_s := (107, [some (.ref _), some (.int _)], [.int _, .int _, .int _, .ref _], _)) rfl (u_ rfl) ?_
          refine w_t (pc := 107) (e_s := (7, 1, 0, 0, 0, .null, [])) (y_s := (108, [some (.ref _), some (.int _)], [.int (_ + _), .int _, .ref _], _)) rfl (u_ rfl) ?_
          refine w25 (pc := 108) (len_s := 1) rfl (hk.1 112 0 7 rfl rfl) (fun c28_s => ?_)
          refine w_t (pc := 109) (e_s := (0, 1, 0, 0, 0, .int 1, [])) (y_s := (110, [some (.ref _), some (.int _)], [.int _], _)) rfl (u_ rfl) ?_
          exact wrI (pc := 110) (len_s := 1) rfl hk t_s
      · replace t_s := t_s.2 c22
        refine w_t (pc := 70) (e_s := (3, 1, 0, 0, 0, .null, [])) (y_s := (71, [some (.ref _), some (.int _)], [.ref _, .int _, .ref _], _)) rfl (u_ rfl) ?_
        refine w20r (pc := 71) (len_s := 3) (q_s := 112) rfl (krq hk rfl) ?_
        refine w_t (pc := 74) (e_s := (0, 1, 0, 0, 0, .int 3, [])) (y_s := (75, [some (.ref _), some (.int _)], [.int _, .ref _, .int _, .ref _], _)) rfl (u_ rfl) ?_
        refine w22 (pc := 75) (len_s := 1) rfl (hk.1 112 0 7 rfl rfl) (fun c29_s => ?_)
        refine w_t (pc := 76) (e_s := (0, 1, 0, 0, 0, .int 3, [])) (y_s := (77, [some (.ref _), some (.int _)], [.int _, .int _, .int _, .ref _], _)) rfl (u_ rfl) ?_
        refine w_t (pc := 77) (e_s := (7, 1, 0, 0, 0, .null, [])) (y_s := (78, [some (.ref _), some (.int _)], [.int (_ + _), .int _, .ref _], _)) rfl (u_ rfl) ?_
        refine w25 (pc := 78) (len_s := 1) rfl (hk.1 112 0 7 rfl rfl) (fun c30_s => ?_)
        refine w_t (pc := 79) (e_s := (3, 1, 0, 0, 0, .null, [])) (y_s := (80, [some (.ref _), some (.int _)], [.ref _], _)) rfl (u_ rfl) ?_
        refine w20r (pc := 80) (len_s := 3) (q_s := 112) rfl (krq hk rfl) ?_
        refine w_t (pc := 83) (e_s := (0, 1, 0, 0, 0, .int 5, [])) (y_s := (84, [some (.ref _), some (.int _)], [.int _, .ref _], _)) rfl (u_ rfl) ?_
        refine w_t (pc := 84) (e_s := (3, 1, 0, 0, 0, .null, [])) (y_s := (85, [some (.ref _), some (.int _)], [.ref _, .int _, .ref _], _)) rfl (u_ rfl) ?_
        refine w20r (pc := 85) (len_s := 3) (q_s := 112) rfl (krq hk rfl) ?_
        refine w_t (pc := 88) (e_s := (0, 1, 0, 0, 0, .int 5, [])) (y_s := (89, [some (.ref _), some (.int _)], [.int _, .ref _, .int _, .ref _], _)) rfl (u_ rfl) ?_
        refine w22 (pc := 89) (len_s := 1) rfl (hk.1 112 0 7 rfl rfl) (fun c31_s => ?_)
        refine w_t (pc := 90) (e_s := (0, 2, 0, 0, 0, .int 8, [])) (y_s := (92, [some (.ref _), some (.int _)], [.int _, .int _, .int _, .ref _], _)) rfl (u_ rfl) ?_
        refine wi5 (pc := 92) (len_s := 3) (Y := 8) rfl rfl (by decide) (fun c32_s => ?_) (fun c32_s => ?_)
        · replace t_s := t_s.1 c32_s
          refine w_t (pc := 95) (e_s := (0, 2, 0, 0, 0, .int 9, [])) (y_s := (97, [some (.ref _), some (.int _)], [.int _, .int _, .ref _], _)) rfl (u_ rfl) ?_
          refine w_t (pc := 97) (e_s := (17, 3, 108, 0, 0, .null, [])) (y_s := (108, [some (.ref _), some (.int _)], [.int _, .int _, .ref _], _)) rfl (u_ rfl) ?_
          refine w25 (pc := 108) (len_s := 1) rfl (hk.1 112 0 7 rfl rfl) (fun c33_s => ?_)
          refine w_t (pc := 109) (e_s := (0, 1, 0, 0, 0, .int 1, [])) (y_s := (110, [some (.ref _), some (.int _)], [.int _], _)) rfl (u_ rfl) ?_
          exact wrI (pc := 110) (len_s := 1) rfl hk t_s
        · replace t_s := t_s.2 c32_s
          refine w_t (pc := 100) (e_s := (3, 1, 0, 0, 0, .null, [])) (y_s := (101, [some (.ref _), some (.int _)], [.ref _, .int _, .ref _], _)) rfl (u_ rfl) ?_
          refine w20r (pc := 101) (len_s := 3) (q_s := 112) rfl (krq hk rfl) ?_
          refine w_t (pc := 104) (e_s := (0, 1, 0, 0, 0, .int 5, [])) (y_s := (105, [some (.ref _), some (.int _)], [.int _, .ref _, .int _, .ref _], _)) rfl (u_ rfl) ?_
          refine w22 (pc := 105) (len_s := 1) rfl (hk.1 112 0 7 rfl rfl) (fun c34_s => ?_)
          refine w_t (pc := 106) (e_s := (0, 1, 0, 0, 0, .int 1, [])) (y_s := (107, [some (.ref _), some (.int _)], [.int _, .int _, .int _, .ref _], _)) rfl (u_ rfl) ?_
          refine w_t (pc := 107) (e_s := (7, 1, 0, 0, 0, .null, [])) (y_s := (108, [some (.ref _), some (.int _)], [.int (_ + _), .int _, .ref _], _)) rfl (u_ rfl) ?_
          refine w25 (pc := 108) (len_s := 1) rfl (hk.1 112 0 7 rfl rfl) (fun c35_s => ?_)
          refine w_t (pc := 109) (e_s := (0, 1, 0, 0, 0, .int 1, [])) (y_s := (110, [some (.ref _), some (.int _)], [.int _], _)) rfl (u_ rfl) ?_
          exact wrI (pc := 110) (len_s := 1) rfl hk t_s
  · replace t_s := t_s.2 c1_s
    refine wsc (X_s := 3) rfl (by decide) (fun c36_s => ?_) (fun c36_s => ?_)
    · replace t_s := t_s.1 c36_s
      refine w_t (pc := 111) (e_s := (3, 1, 0, 0, 0, .null, [])) (y_s := (112, [some (.ref _), some (.int _)], [.ref _], _)) rfl (u_ rfl) ?_
      refine w20r (pc := 112) (len_s := 3) (q_s := 112) rfl (krq hk rfl) ?_
      refine w_t (pc := 115) (e_s := (0, 1, 0, 0, 0, .int 3, [])) (y_s := (116, [some (.ref _), some (.int _)], [.int _, .ref _], _)) rfl (u_ rfl) ?_
      refine w22 (pc := 116) (len_s := 1) rfl (hk.1 112 0 7 rfl rfl) (fun c37 => ?_)
      refine w_t (pc := 117) (e_s := (0, 1, 0, 0, 0, .int 1, [])) (y_s := (118, [some (.ref _), some (.int _)], [.int _, .int _], _)) rfl (u_ rfl) ?_
      refine wi3 (pc := 118) (len_s := 3) (Y := 1) rfl rfl (by decide) (fun c38 => ?_) (fun c38 => ?_)
      · replace t_s := t_s.1 c38
        refine w_t (pc := 121) (e_s := (0, 1, 0, 0, 0, .int 0, [])) (y_s := (122, [some (.ref _), some (.int _)], [.int _], _)) rfl (u_ rfl) ?_
        exact wrI (pc := 122) (len_s := 1) rfl hk t_s
      · replace t_s := t_s.2 c38
        refine w_t (pc := 123) (e_s := (3, 1, 0, 0, 0, .null, [])) (y_s := (124, [some (.ref _), some (.int _)], [.ref _], _)) rfl (u_ rfl) ?_
        refine w20r (pc := 124) (len_s := 3) (q_s := 112) rfl (krq hk rfl) ?_
        refine w_t (pc := 127) (e_s := (0, 1, 0, 0, 0, .int 3, [])) (y_s := (128, [some (.ref _), some (.int _)], [.int _, .ref _], _)) rfl (u_ rfl) ?_
        refine w_t (pc := 128) (e_s := (41, 1, 0, 0, 0, .null, [])) (y_s := (129, [some (.ref _), some (.int _)], [.int _, .ref _, .int _, .ref _], _)) rfl (u_ rfl) ?_
        refine w22 (pc := 129) (len_s := 1) rfl (hk.1 112 0 7 rfl rfl) (fun c39_s => ?_)
        refine w_t (pc := 130) (e_s := (0, 1, 0, 0, 0, .int 1, [])) (y_s := (131, [some (.ref _), some (.int _)], [.int _, .int _, .int _, .ref _], _)) rfl (u_ rfl) ?_
        refine w_t (pc := 131) (e_s := (7, 1, 0, 1, 0, .null, [])) (y_s := (132, [some (.ref _), some (.int _)], [.int (_ - _), .int _, .ref _], _)) rfl (u_ rfl) ?_
        refine w25 (pc := 132) (len_s := 1) rfl (hk.1 112 0 7 rfl rfl) (fun c40_s => ?_)
        refine w_t (pc := 133) (e_s := (3, 1, 0, 0, 0, .null, [])) (y_s := (134, [some (.ref _), some (.int _)], [.ref _], _)) rfl (u_ rfl) ?_
        refine w20r (pc := 134) (len_s := 3) (q_s := 112) rfl (krq hk rfl) ?_
        refine w_t (pc := 137) (e_s := (0, 1, 0, 0, 0, .int 2, [])) (y_s := (138, [some (.ref _), some (.int _)], [.int _, .ref _], _)) rfl (u_ rfl) ?_
        refine w_t (pc := 138) (e_s := (3, 1, 0, 0, 0, .null, [])) (y_s := (139, [some (.ref _), some (.int _)], [.ref _, .int _, .ref _], _)) rfl (u_ rfl) ?_
        refine w20r (pc := 139) (len_s := 3) (q_s := 112) rfl (krq hk rfl) ?_
        refine w_t (pc := 142) (e_s := (0, 1, 0, 0, 0, .int 2, [])) (y_s := (143, [some (.ref _), some (.int _)], [.int _, .ref _, .int _, .ref _], _)) rfl (u_ rfl) ?_
        refine w22 (pc := 143) (len_s := 1) rfl (hk.1 112 0 7 rfl rfl) (fun c41 => ?_)
        refine w_t (pc := 144) (e_s := (0, 2, 0, 0, 0, .int 10, [])) (y_s := (146, [some (.ref _), some (.int _)], [.int _, .int _, .int _, .ref _], _)) rfl (u_ rfl) ?_
        refine wi3 (pc := 146) (len_s := 3) (Y := 10) rfl rfl (by decide) (fun c42 => ?_) (fun c42 => ?_)
        · replace t_s := t_s.1 c42
          refine w_t (pc := 149) (e_s := (0, 1, 0, 0, 0, .int 0, [])) (y_s := (150, [some (.ref _), some (.int _)], [.int _, .int _, .ref _], _)) rfl (u_ rfl) ?_
          refine w_t (pc := 150) (e_s := (17, 3, 162, 0, 0, .null, [])) (y_s := (162, [some (.ref _), some (.int _)], [.int _, .int _, .ref _], _)) rfl (u_ rfl) ?_
          refine w25 (pc := 162) (len_s := 1) rfl (hk.1 112 0 7 rfl rfl) (fun c43_s => ?_)
          refine w_t (pc := 163) (e_s := (0, 1, 0, 0, 0, .int 1, [])) (y_s := (164, [some (.ref _), some (.int _)], [.int _], _)) rfl (u_ rfl) ?_
          exact wrI (pc := 164) (len_s := 1) rfl hk t_s
        · replace t_s := t_s.2 c42
          refine w_t (pc := 153) (e_s := (3, 1, 0, 0, 0, .null, [])) (y_s := (154, [some (.ref _), some (.int _)], [.ref _, .int _, .ref _], _)) rfl (u_ rfl) ?_
          refine w20r (pc := 154) (len_s := 3) (q_s := 112) rfl (krq hk rfl) ?_
          refine w_t (pc := 157) (e_s := (0, 1, 0, 0, 0, .int 2, [])) (y_s := (158, [some (.ref _), some (.int _)], [.int _, .ref _, .int _, .ref _], _)) rfl (u_ rfl) ?_
          refine w22 (pc := 158) (len_s := 1) rfl (hk.1 112 0 7 rfl rfl) (fun c44_s => ?_)
          refine w_t (pc := 159) (e_s := (0, 2, 0, 0, 0, .int 10, [])) (y_s := (161, [some (.ref _), some (.int _)], [.int _, .int _, .int _, .ref _], _)) rfl (u_ rfl) ?_
          refine w_t (pc := 161) (e_s := (7, 1, 0, 1, 0, .null, [])) (y_s := (162, [some (.ref _), some (.int _)], [.int (_ - _), .int _, .ref _], _)) rfl (u_ rfl) ?_
          refine w25 (pc := 162) (len_s := 1) rfl (hk.1 112 0 7 rfl rfl) (fun c45 => ?_)
          refine w_t (pc := 163) (e_s := (0, 1, 0, 0, 0, .int 1, [])) (y_s := (164, [some (.ref _), some (.int _)], [.int _], _)) rfl (u_ rfl) ?_
          exact wrI (pc := 164) (len_s := 1) rfl hk t_s
    · replace t_s := t_s.2 c36_s
      show wF _ _ (165, _, _, _) _
      refine w_t (pc := 165) (e_s := (3, 1, 0, 0, 0, .null, [])) (y_s := (166, [some (.ref _), some (.int _)], [.ref _], _)) rfl (u_ rfl) ?_
      refine w_t (pc := 166) (e_s := (1, 1, 1, 0, 0, .null, [])) (y_s := (167, [some (.ref _), some (.int _)], [.int _, .ref _], _)) rfl (u_ rfl) ?_
      refine w_t (pc := 167) (e_s := (0, 1, 0, 0, 0, .int 1, [])) (y_s := (168, [some (.ref _), some (.int _)], [.int _, .int _, .ref _], _)) rfl (u_ rfl) ?_
      refine wi1 (pc := 168) (len_s := 3) (Y := 1) rfl rfl (by decide) (fun c46_s => ?_) (fun c46_s => ?_)
      · replace t_s := t_s.1 c46_s
        refine w_t (pc := 171) (e_s := (0, 1, 0, 0, 0, .int 1, [])) (y_s := (172, [some (.ref _), some (.int _)], [.int _, .ref _], _)) rfl (u_ rfl) ?_
        refine w_t (pc := 172) (e_s := (17, 3, 176, 0, 0, .null, [])) (y_s := (176, [some (.ref _), some (.int _)], [.int _, .ref _], _)) rfl (u_ rfl) ?_
        refine wcI (pc := 176) (len_s := 3) rfl rfl (l := [some (.ref _), some (.int _)]) rfl ?_
        refine w_t (pc := 0) (e_s := (3, 1, 0, 0, 0, .null, [])) (y_s := (1, [some (.ref _), some (.int _)], [.ref _], _)) rfl (u_ rfl) ?_
        refine w20r (pc := 1) (len_s := 3) (q_s := 112) rfl (krq hk rfl) ?_
        refine w_t (pc := 4) (e_s := (0, 1, 0, 0, 0, .int 3, [])) (y_s := (5, [some (.ref _), some (.int _)], [.int _, .ref _], _)) rfl (u_ rfl) ?_
        refine w22 (pc := 5) (len_s := 1) rfl (hk.1 112 0 7 rfl rfl) (fun c47_s => ?_)
        refine w_t (pc := 6) (e_s := (0, 1, 0, 0, 0, .int 2, [])) (y_s := (7, [some (.ref _), some (.int _)], [.int _, .int _], _)) rfl (u_ rfl) ?_
        refine wi2 (pc := 7) (len_s := 3) (Y := 2) rfl rfl (by decide) (fun c48_s => ?_) (fun c48_s => ?_)
        · replace t_s := t_s.1 c48_s
          refine w_t (pc := 29) (e_s := (0, 1, 0, 0, 0, .int 0, [])) (y_s := (30, [some (.ref _), some (.int _)], [.int _], _)) rfl (u_ rfl) ?_
          refine wrI (pc := 30) (len_s := 1) rfl hk ?_
          show wF _ 184 (179, [some (.ref _), some (.int _)], [.int _], _) _
          exact wrI (pc := 179) (len_s := 1) rfl hk t_s
        · replace t_s := t_s.2 c48_s
          refine w_t (pc := 10) (e_s := (3, 1, 0, 0, 0, .null, [])) (y_s := (11, [some (.ref _), some (.int _)], [.ref _], _)) rfl (u_ rfl) ?_
          refine w20r (pc := 11) (len_s := 3) (q_s := 112) rfl (krq hk rfl) ?_
          refine w_t (pc := 14) (e_s := (0, 1, 0, 0, 0, .int 1, [])) (y_s := (15, [some (.ref _), some (.int _)], [.int _, .ref _], _)) rfl (u_ rfl) ?_
          refine w22 (pc := 15) (len_s := 1) rfl (hk.1 112 0 7 rfl rfl) (fun c49 => ?_)
          refine w_t (pc := 16) (e_s := (1, 1, 1, 0, 0, .null, [])) (y_s := (17, [some (.ref _), some (.int _)], [.int _, .int _], _)) rfl (u_ rfl) ?_
          refine w_t (pc := 17) (e_s := (7, 1, 0, 0, 0, .null, [])) (y_s := (18, [some (.ref _), some (.int _)], [.int (_ + _)], _)) rfl (u_ rfl) ?_
          refine w_t (pc := 18) (e_s := (10, 1, 0, 0, 0, .null, [])) (y_s := (19, [some (.ref _), some (.int _)], [.long (Int32.toInt64 _)], _)) rfl (u_ rfl) ?_
          refine w_t (pc := 19) (e_s := (0, 1, 0, 0, 0, .long 0, [])) (y_s := (20, [some (.ref _), some (.int _)], [.long _, .long _], _)) rfl (u_ rfl) ?_
          refine w_t (pc := 20) (e_s := (0, 3, 0, 0, 0, .long 5, [(0, 1063)])) (y_s := (23, [some (.ref _), some (.int _)], [.long _, .long _, .long _], _)) rfl (u_ rfl) ?_
          refine wcI (pc := 23) (len_s := 3) rfl rfl (l := [some (.long _), none, some (.long _), none, some (.long _), none]) rfl ?_
          refine w_t (pc := 0) (e_s := (2, 1, 0, 0, 0, .null, [])) (y_s := (1, [some (.long _), none, some (.long _), none, some (.long _), none], [.long _], _)) rfl (u_ rfl) ?_
          refine w_t (pc := 1) (e_s := (2, 1, 2, 0, 0, .null, [])) (y_s := (2, [some (.long _), none, some (.long _), none, some (.long _), none], [.long _, .long _], _)) rfl (u_ rfl) ?_
          refine w_t (pc := 2) (e_s := (14, 1, 0, 0, 0, .null, [])) (y_s := (3, [some (.long _), none, some (.long _), none, some (.long _), none], [.int (lg_cmp _ _)], _)) rfl (u_ rfl) ?_
          refine wl2 (pc := 3) (len_s := 3) (Y := 0) rfl (Int32.toInt_toInt64 _) (by decide) (fun c50 => ?_) (fun c50 => ?_)
          · replace t_s := t_s.1 c50
            refine w_t (pc := 17) (e_s := (0, 1, 0, 0, 0, .int 0, [])) (y_s := (18, [some (.long _), none, some (.long _), none, some (.long _), none], [.int _], _)) rfl (u_ rfl) ?_
            refine wrI (pc := 18) (len_s := 1) rfl hk ?_
            show wF _ 185 (26, [some (.ref _), some (.int _)], [.int _], _) _
            refine w_t (pc := 26) (e_s := (15, 3, 31, 1, 0, .null, [])) (y_s := (29, [some (.ref _), some (.int _)], [], _)) rfl (u_ rfl) ?_
            refine w_t (pc := 29) (e_s := (0, 1, 0, 0, 0, .int 0, [])) (y_s := (30, [some (.ref _), some (.int _)], [.int _], _)) rfl (u_ rfl) ?_
            refine wrI (pc := 30) (len_s := 1) rfl hk ?_
            show wF _ 184 (179, [some (.ref _), some (.int _)], [.int _], _) _
            exact wrI (pc := 179) (len_s := 1) rfl hk t_s
          · replace t_s := t_s.2 c50
            refine w_t (pc := 6) (e_s := (2, 1, 0, 0, 0, .null, [])) (y_s := (7, [some (.long _), none, some (.long _), none, some (.long _), none], [.long _], _)) rfl (u_ rfl) ?_
            refine w_t (pc := 7) (e_s := (2, 2, 4, 0, 0, .null, [])) (y_s := (9, [some (.long _), none, some (.long _), none, some (.long _), none], [.long _, .long _], _)) rfl (u_ rfl) ?_
            refine w_t (pc := 9) (e_s := (14, 1, 0, 0, 0, .null, [])) (y_s := (10, [some (.long _), none, some (.long _), none, some (.long _), none], [.int (lg_cmp _ _)], _)) rfl (u_ rfl) ?_
            refine wl4 (pc := 10) (len_s := 3) (Y := 5) rfl (Int32.toInt_toInt64 _) (by decide) (fun c51_s => ?_) (fun c51_s => ?_)
            · replace t_s := t_s.1 c51_s
              refine w_t (pc := 17) (e_s := (0, 1, 0, 0, 0, .int 0, [])) (y_s := (18, [some (.long _), none, some (.long _), none, some (.long _), none], [.int _], _)) rfl (u_ rfl) ?_
              refine wrI (pc := 18) (len_s := 1) rfl hk ?_
              show wF _ 185 (26, [some (.ref _), some (.int _)], [.int _], _) _
              refine w_t (pc := 26) (e_s := (15, 3, 31, 1, 0, .null, [])) (y_s := (29, [some (.ref _), some (.int _)], [], _)) rfl (u_ rfl) ?_
              refine w_t (pc := 29) (e_s := (0, 1, 0, 0, 0, .int 0, [])) (y_s := (30, [some (.ref _), some (.int _)], [.int _], _)) rfl (u_ rfl) ?_
              refine wrI (pc := 30) (len_s := 1) rfl hk ?_
              show wF _ 184 (179, [some (.ref _), some (.int _)], [.int _], _) _
              exact wrI (pc := 179) (len_s := 1) rfl hk t_s
            · replace t_s := t_s.2 c51_s
              refine w_t (pc := 13) (e_s := (0, 1, 0, 0, 0, .int 1, [])) (y_s := (14, [some (.long _), none, some (.long _), none, some (.long _), none], [.int _], _)) rfl (u_ rfl) ?_
              refine w_t (pc := 14) (e_s := (17, 3, 18, 0, 0, .null, [])) (y_s := (18, [some (.long _), none, some (.long _), none, some (.long _), none], [.int _], _)) rfl (u_ rfl) ?_
              refine wrI (pc := 18) (len_s := 1) rfl hk ?_
              show wF _ 185 (26, [some (.ref _), some (.int _)], [.int _], _) _
              refine w_t (pc := 26) (e_s := (15, 3, 31, 1, 0, .null, [])) (y_s := (31, [some (.ref _), some (.int _)], [], _)) rfl (u_ rfl) ?_
              refine w_t (pc := 31) (e_s := (3, 1, 0, 0, 0, .null, [])) (y_s := (32, [some (.ref _), some (.int _)], [.ref _], _)) rfl (u_ rfl) ?_
              refine w20r (pc := 32) (len_s := 3) (q_s := 112) rfl (krq hk rfl) ?_
              refine w_t (pc := 35) (e_s := (0, 1, 0, 0, 0, .int 3, [])) (y_s := (36, [some (.ref _), some (.int _)], [.int _, .ref _], _)) rfl (u_ rfl) ?_
              refine w_t (pc := 36) (e_s := (41, 1, 0, 0, 0, .null, [])) (y_s := (37, [some (.ref _), some (.int _)], [.int _, .ref _, .int _, .ref _], _)) rfl (u_ rfl) ?_
              refine w22 (pc := 37) (len_s := 1) rfl (hk.1 112 0 7 rfl rfl) (fun c52_s => ?_)
              refine w_t (pc := 38) (e_s := (0, 1, 0, 0, 0, .int 2, [])) (y_s := (39, [some (.ref _), some (.int _)], [.int _, .int _, .int _, .ref _], _)) rfl (u_ rfl) ?_
              refine w_t (pc := 39) (e_s := (7, 1, 0, 1, 0, .null, [])) (y_s := (40, [some (.ref _), some (.int _)], [.int (_ - _), .int _, .ref _], _)) rfl (u_ rfl) ?_
              refine w25 (pc := 40) (len_s := 1) rfl (hk.1 112 0 7 rfl rfl) (fun c53 => ?_)
              refine w_t (pc := 41) (e_s := (3, 1, 0, 0, 0, .null, [])) (y_s := (42, [some (.ref _), some (.int _)], [.ref _], _)) rfl (u_ rfl) ?_
              refine w20r (pc := 42) (len_s := 3) (q_s := 112) rfl (krq hk rfl) ?_
              refine w_t (pc := 45) (e_s := (0, 1, 0, 0, 0, .int 1, [])) (y_s := (46, [some (.ref _), some (.int _)], [.int _, .ref _], _)) rfl (u_ rfl) ?_
              refine w_t (pc := 46) (e_s := (41, 1, 0, 0, 0, .null, [])) (y_s := (47, [some (.ref _), some (.int _)], [.int _, .ref _, .int _, .ref _], _)) rfl (u_ rfl) ?_
              refine w22 (pc := 47) (len_s := 1) rfl (hk.1 112 0 7 rfl rfl) (fun c54 => ?_)
              refine w_t (pc := 48) (e_s := (1, 1, 1, 0, 0, .null, [])) (y_s := (49, [some (.ref _), some (.int _)], [.int _, .int _, .int _, .ref _], _)) rfl (u_ rfl) ?_
              refine w_t (pc := 49) (e_s := (7, 1, 0, 0, 0, .null, [])) (y_s := (50, [some (.ref _), some (.int _)], [.int (_ + _), .int _, .ref _], _)) rfl (u_ rfl) ?_
              refine w25 (pc := 50) (len_s := 1) rfl (hk.1 112 0 7 rfl rfl) (fun c55 => ?_)
              refine w_t (pc := 51) (e_s := (0, 1, 0, 0, 0, .int 1, [])) (y_s := (52, [some (.ref _), some (.int _)], [.int _], _)) rfl (u_ rfl) ?_
              refine wrI (pc := 52) (len_s := 1) rfl hk ?_
              show wF _ 184 (179, [some (.ref _), some (.int _)], [.int _], _) _
              exact wrI (pc := 179) (len_s := 1) rfl hk t_s
      · replace t_s := t_s.2 c46_s
        refine w_t (pc := 175) (e_s := (0, 1, 0, 0, 0, .int (-1), [])) (y_s := (176, [some (.ref _), some (.int _)], [.int _, .ref _], _)) rfl (u_ rfl) ?_
        refine wcI (pc := 176) (len_s := 3) rfl rfl (l := [some (.ref _), some (.int _)]) rfl ?_
        refine w_t (pc := 0) (e_s := (3, 1, 0, 0, 0, .null, [])) (y_s := (1, [some (.ref _), some (.int _)], [.ref _], _)) rfl (u_ rfl) ?_
        refine w20r (pc := 1) (len_s := 3) (q_s := 112) rfl (krq hk rfl) ?_
        refine w_t (pc := 4) (e_s := (0, 1, 0, 0, 0, .int 3, [])) (y_s := (5, [some (.ref _), some (.int _)], [.int _, .ref _], _)) rfl (u_ rfl) ?_
        refine w22 (pc := 5) (len_s := 1) rfl (hk.1 112 0 7 rfl rfl) (fun c56 => ?_)
        refine w_t (pc := 6) (e_s := (0, 1, 0, 0, 0, .int 2, [])) (y_s := (7, [some (.ref _), some (.int _)], [.int _, .int _], _)) rfl (u_ rfl) ?_
        refine wi2 (pc := 7) (len_s := 3) (Y := 2) rfl rfl (by decide) (fun c57 => ?_) (fun c57 => ?_)
        · replace t_s := t_s.1 c57
          refine w_t (pc := 29) (e_s := (0, 1, 0, 0, 0, .int 0, [])) (y_s := (30, [some (.ref _), some (.int _)], [.int _], _)) rfl (u_ rfl) ?_
          refine wrI (pc := 30) (len_s := 1) rfl hk ?_
          show wF _ 184 (179, [some (.ref _), some (.int _)], [.int _], _) _
          exact wrI (pc := 179) (len_s := 1) rfl hk t_s
        · replace t_s := t_s.2 c57
          refine w_t (pc := 10) (e_s := (3, 1, 0, 0, 0, .null, [])) (y_s := (11, [some (.ref _), some (.int _)], [.ref _], _)) rfl (u_ rfl) ?_
          refine w20r (pc := 11) (len_s := 3) (q_s := 112) rfl (krq hk rfl) ?_
          refine w_t (pc := 14) (e_s := (0, 1, 0, 0, 0, .int 1, [])) (y_s := (15, [some (.ref _), some (.int _)], [.int _, .ref _], _)) rfl (u_ rfl) ?_
          refine w22 (pc := 15) (len_s := 1) rfl (hk.1 112 0 7 rfl rfl) (fun c58 => ?_)
          refine w_t (pc := 16) (e_s := (1, 1, 1, 0, 0, .null, [])) (y_s := (17, [some (.ref _), some (.int _)], [.int _, .int _], _)) rfl (u_ rfl) ?_
          refine w_t (pc := 17) (e_s := (7, 1, 0, 0, 0, .null, [])) (y_s := (18, [some (.ref _), some (.int _)], [.int (_ + _)], _)) rfl (u_ rfl) ?_
          refine w_t (pc := 18) (e_s := (10, 1, 0, 0, 0, .null, [])) (y_s := (19, [some (.ref _), some (.int _)], [.long (Int32.toInt64 _)], _)) rfl (u_ rfl) ?_
          refine w_t (pc := 19) (e_s := (0, 1, 0, 0, 0, .long 0, [])) (y_s := (20, [some (.ref _), some (.int _)], [.long _, .long _], _)) rfl (u_ rfl) ?_
          refine w_t (pc := 20) (e_s := (0, 3, 0, 0, 0, .long 5, [(0, 1063)])) (y_s := (23, [some (.ref _), some (.int _)], [.long _, .long _, .long _], _)) rfl (u_ rfl) ?_
          refine wcI (pc := 23) (len_s := 3) rfl rfl (l := [some (.long _), none, some (.long _), none, some (.long _), none]) rfl ?_
          refine w_t (pc := 0) (e_s := (2, 1, 0, 0, 0, .null, [])) (y_s := (1, [some (.long _), none, some (.long _), none, some (.long _), none], [.long _], _)) rfl (u_ rfl) ?_
          refine w_t (pc := 1) (e_s := (2, 1, 2, 0, 0, .null, [])) (y_s := (2, [some (.long _), none, some (.long _), none, some (.long _), none], [.long _, .long _], _)) rfl (u_ rfl) ?_
          refine w_t (pc := 2) (e_s := (14, 1, 0, 0, 0, .null, [])) (y_s := (3, [some (.long _), none, some (.long _), none, some (.long _), none], [.int (lg_cmp _ _)], _)) rfl (u_ rfl) ?_
          refine wl2 (pc := 3) (len_s := 3) (Y := 0) rfl (Int32.toInt_toInt64 _) (by decide) (fun c59 => ?_) (fun c59 => ?_)
          · replace t_s := t_s.1 c59
            refine w_t (pc := 17) (e_s := (0, 1, 0, 0, 0, .int 0, [])) (y_s := (18, [some (.long _), none, some (.long _), none, some (.long _), none], [.int _], _)) rfl (u_ rfl) ?_
            refine wrI (pc := 18) (len_s := 1) rfl hk ?_
            show wF _ 185 (26, [some (.ref _), some (.int _)], [.int _], _) _
            refine w_t (pc := 26) (e_s := (15, 3, 31, 1, 0, .null, [])) (y_s := (29, [some (.ref _), some (.int _)], [], _)) rfl (u_ rfl) ?_
            refine w_t (pc := 29) (e_s := (0, 1, 0, 0, 0, .int 0, [])) (y_s := (30, [some (.ref _), some (.int _)], [.int _], _)) rfl (u_ rfl) ?_
            refine wrI (pc := 30) (len_s := 1) rfl hk ?_
            show wF _ 184 (179, [some (.ref _), some (.int _)], [.int _], _) _
            exact wrI (pc := 179) (len_s := 1) rfl hk t_s
          · replace t_s := t_s.2 c59
            refine w_t (pc := 6) (e_s := (2, 1, 0, 0, 0, .null, [])) (y_s := (7, [some (.long _), none, some (.long _), none, some (.long _), none], [.long _], _)) rfl (u_ rfl) ?_
            refine w_t (pc := 7) (e_s := (2, 2, 4, 0, 0, .null, [])) (y_s := (9, [some (.long _), none, some (.long _), none, some (.long _), none], [.long _, .long _], _)) rfl (u_ rfl) ?_
            refine w_t (pc := 9) (e_s := (14, 1, 0, 0, 0, .null, [])) (y_s := (10, [some (.long _), none, some (.long _), none, some (.long _), none], [.int (lg_cmp _ _)], _)) rfl (u_ rfl) ?_
            refine wl4 (pc := 10) (len_s := 3) (Y := 5) rfl (Int32.toInt_toInt64 _) (by decide) (fun c60 => ?_) (fun c60 => ?_)
            · replace t_s := t_s.1 c60
              refine w_t (pc := 17) (e_s := (0, 1, 0, 0, 0, .int 0, [])) (y_s := (18, [some (.long _), none, some (.long _), none, some (.long _), none], [.int _], _)) rfl (u_ rfl) ?_
              refine wrI (pc := 18) (len_s := 1) rfl hk ?_
              show wF _ 185 (26, [some (.ref _), some (.int _)], [.int _], _) _
              refine w_t (pc := 26) (e_s := (15, 3, 31, 1, 0, .null, [])) (y_s := (29, [some (.ref _), some (.int _)], [], _)) rfl (u_ rfl) ?_
              refine w_t (pc := 29) (e_s := (0, 1, 0, 0, 0, .int 0, [])) (y_s := (30, [some (.ref _), some (.int _)], [.int _], _)) rfl (u_ rfl) ?_
              refine wrI (pc := 30) (len_s := 1) rfl hk ?_
              show wF _ 184 (179, [some (.ref _), some (.int _)], [.int _], _) _
              exact wrI (pc := 179) (len_s := 1) rfl hk t_s
            · replace t_s := t_s.2 c60
              refine w_t (pc := 13) (e_s := (0, 1, 0, 0, 0, .int 1, [])) (y_s := (14, [some (.long _), none, some (.long _), none, some (.long _), none], [.int _], _)) rfl (u_ rfl) ?_
              refine w_t (pc := 14) (e_s := (17, 3, 18, 0, 0, .null, [])) (y_s := (18, [some (.long _), none, some (.long _), none, some (.long _), none], [.int _], _)) rfl (u_ rfl) ?_
              refine wrI (pc := 18) (len_s := 1) rfl hk ?_
              show wF _ 185 (26, [some (.ref _), some (.int _)], [.int _], _) _
              refine w_t (pc := 26) (e_s := (15, 3, 31, 1, 0, .null, [])) (y_s := (31, [some (.ref _), some (.int _)], [], _)) rfl (u_ rfl) ?_
              refine w_t (pc := 31) (e_s := (3, 1, 0, 0, 0, .null, [])) (y_s := (32, [some (.ref _), some (.int _)], [.ref _], _)) rfl (u_ rfl) ?_
              refine w20r (pc := 32) (len_s := 3) (q_s := 112) rfl (krq hk rfl) ?_
              refine w_t (pc := 35) (e_s := (0, 1, 0, 0, 0, .int 3, [])) (y_s := (36, [some (.ref _), some (.int _)], [.int _, .ref _], _)) rfl (u_ rfl) ?_
              refine w_t (pc := 36) (e_s := (41, 1, 0, 0, 0, .null, [])) (y_s := (37, [some (.ref _), some (.int _)], [.int _, .ref _, .int _, .ref _], _)) rfl (u_ rfl) ?_
              refine w22 (pc := 37) (len_s := 1) rfl (hk.1 112 0 7 rfl rfl) (fun c61 => ?_)
              refine w_t (pc := 38) (e_s := (0, 1, 0, 0, 0, .int 2, [])) (y_s := (39, [some (.ref _), some (.int _)], [.int _, .int _, .int _, .ref _], _)) rfl (u_ rfl) ?_
              refine w_t (pc := 39) (e_s := (7, 1, 0, 1, 0, .null, [])) (y_s := (40, [some (.ref _), some (.int _)], [.int (_ - _), .int _, .ref _], _)) rfl (u_ rfl) ?_
              refine w25 (pc := 40) (len_s := 1) rfl (hk.1 112 0 7 rfl rfl) (fun c62 => ?_)
              refine w_t (pc := 41) (e_s := (3, 1, 0, 0, 0, .null, [])) (y_s := (42, [some (.ref _), some (.int _)], [.ref _], _)) rfl (u_ rfl) ?_
              refine w20r (pc := 42) (len_s := 3) (q_s := 112) rfl (krq hk rfl) ?_
              refine w_t (pc := 45) (e_s := (0, 1, 0, 0, 0, .int 1, [])) (y_s := (46, [some (.ref _), some (.int _)], [.int _, .ref _], _)) rfl (u_ rfl) ?_
              refine w_t (pc := 46) (e_s := (41, 1, 0, 0, 0, .null, [])) (y_s := (47, [some (.ref _), some (.int _)], [.int _, .ref _, .int _, .ref _], _)) rfl (u_ rfl) ?_
              refine w22 (pc := 47) (len_s := 1) rfl (hk.1 112 0 7 rfl rfl) (fun c63 => ?_)
              refine w_t (pc := 48) (e_s := (1, 1, 1, 0, 0, .null, [])) (y_s := (49, [some (.ref _), some (.int _)], [.int _, .int _, .int _, .ref _], _)) rfl (u_ rfl) ?_
              refine w_t (pc := 49) (e_s := (7, 1, 0, 0, 0, .null, [])) (y_s := (50, [some (.ref _), some (.int _)], [.int (_ + _), .int _, .ref _], _)) rfl (u_ rfl) ?_
              refine w25 (pc := 50) (len_s := 1) rfl (hk.1 112 0 7 rfl rfl) (fun c64 => ?_)
              refine w_t (pc := 51) (e_s := (0, 1, 0, 0, 0, .int 1, [])) (y_s := (52, [some (.ref _), some (.int _)], [.int _], _)) rfl (u_ rfl) ?_
              refine wrI (pc := 52) (len_s := 1) rfl hk ?_
              show wF _ 184 (179, [some (.ref _), some (.int _)], [.int _], _) _
              exact wrI (pc := 179) (len_s := 1) rfl hk t_s
/-- ColdShod.stroke(II)I, from 0 on -/
theorem sg_117_0 {F_s : Nat} {x1_s : Int32} {x2_s : Int32} {h_s : zH} {K_s : Int32 → zH → Prop} (hk : hKn h_s) (t_s : (x1_s.toInt < 0 → K_s (-1) h_s) ∧ (¬ x1_s.toInt < 0 → ((x1_s.toInt < (h_s.2.1 7 7).toInt → ((x2_s.toInt < 0 → K_s (-1) h_s) ∧ (¬ x2_s.toInt < 0 → ((3 < x2_s.toInt → K_s (-1) h_s) ∧ (¬ 3 < x2_s.toInt → (zix x1_s < 8 → wF F_s 43 (0, [some (.ref (20 + (zix x1_s))), some (.int x2_s)], [], h_s) (gI (fun v6 h6 => hKn h6 → (v6.toInt = 0 → K_s 0 (h6.1, zup h6.2.1 73 1 ((h6.2.1 73 1) + 1), h6.2.2.1, h6.2.2.2)) ∧ (¬ v6.toInt = 0 → K_s 1 (h6.1, zup h6.2.1 73 0 ((h6.2.1 73 0) + 1), h6.2.2.1, h6.2.2.2)))))))))) ∧ (¬ x1_s.toInt < (h_s.2.1 7 7).toInt → K_s (-1) h_s)))) : wF (F_s + 1) 117 (0, [some (.ref 6), some (.int x1_s), some (.int x2_s), none], [], h_s) (gI K_s) := by
  refine w_0 (pc := 0) (e_s := (3, 1, 0, 0, 0, .null, [])) (y_s := (1, [some (.ref _), some (.int _), some (.int _), none], [.ref _], _)) rfl (u_ rfl) ?_
  refine w20r (pc := 1) (len_s := 3) (q_s := 7) rfl (krq hk rfl) ?_
  refine w_t (pc := 4) (e_s := (1, 1, 1, 0, 0, .null, [])) (y_s := (5, [some (.ref _), some (.int _), some (.int _), none], [.int _, .ref _], _)) rfl (u_ rfl) ?_
  refine wcI (pc := 5) (len_s := 3) rfl rfl (l := [some (.ref _), some (.int _)]) rfl ?_
  refine w_t (pc := 0) (e_s := (1, 1, 1, 0, 0, .null, [])) (y_s := (1, [some (.ref _), some (.int _)], [.int _], _)) rfl (u_ rfl) ?_
  refine wq2 (pc := 1) (len_s := 3) rfl rfl (fun c1_s => ?_) (fun c1_s => ?_)
  · replace t_s := t_s.1 c1_s
    refine w_t (pc := 16) (e_s := (0, 1, 0, 0, 0, .int 0, [])) (y_s := (17, [some (.ref _), some (.int _)], [.int _], _)) rfl (u_ rfl) ?_
    refine wrI (pc := 17) (len_s := 1) rfl hk ?_
    show wF _ 117 (8, [some (.ref _), some (.int _), some (.int _), none], [.int _], _) _
    refine w_t (pc := 8) (e_s := (15, 3, 20, 0, 0, .null, [])) (y_s := (20, [some (.ref _), some (.int _), some (.int _), none], [], _)) rfl (u_ rfl) ?_
    refine w_t (pc := 20) (e_s := (0, 1, 0, 0, 0, .int (-1), [])) (y_s := (21, [some (.ref _), some (.int _), some (.int _), none], [.int _], _)) rfl (u_ rfl) ?_
    exact wrI (pc := 21) (len_s := 1) rfl hk t_s
  · replace t_s := t_s.2 c1_s
    refine w_t (pc := 4) (e_s := (1, 1, 1, 0, 0, .null, [])) (y_s := (5, [some (.ref _), some (.int _)], [.int _], _)) rfl (u_ rfl) ?_
    refine w_t (pc := 5) (e_s := (3, 1, 0, 0, 0, .null, [])) (y_s := (6, [some (.ref _), some (.int _)], [.ref _, .int _], _)) rfl (u_ rfl) ?_
    refine w20 (pc := 6) (len_s := 3) rfl ?_
    refine wi3 (pc := 9) (len_s := 3) rfl rfl rfl (fun c2_s => ?_) (fun c2_s => ?_)
    · replace t_s := t_s.1 c2_s
      refine w_t (pc := 12) (e_s := (0, 1, 0, 0, 0, .int 1, [])) (y_s := (13, [some (.ref _), some (.int _)], [.int _], _)) rfl (u_ rfl) ?_
      refine w_t (pc := 13) (e_s := (17, 3, 17, 0, 0, .null, [])) (y_s := (17, [some (.ref _), some (.int _)], [.int _], _)) rfl (u_ rfl) ?_
      refine wrI (pc := 17) (len_s := 1) rfl hk ?_
      show wF _ 117 (8, [some (.ref _), some (.int _), some (.int _), none], [.int _], _) _
      refine w_t (pc := 8) (e_s := (15, 3, 20, 0, 0, .null, [])) (y_s := (11, [some (.ref _), some (.int _), some (.int _), none], [], _)) rfl (u_ rfl) ?_
      refine w_t (pc := 11) (e_s := (1, 1, 2, 0, 0, .null, [])) (y_s := (12, [some (.ref _), some (.int _), some (.int _), none], [.int _], _)) rfl (u_ rfl) ?_
      refine wq2 (pc := 12) (len_s := 3) rfl rfl (fun c3_s => ?_) (fun c3_s => ?_)
      · replace t_s := t_s.1 c3_s
        refine w_t (pc := 20) (e_s := (0, 1, 0, 0, 0, .int (-1), [])) (y_s := (21, [some (.ref _), some (.int _), some (.int _), none], [.int _], _)) rfl (u_ rfl) ?_
        exact wrI (pc := 21) (len_s := 1) rfl hk t_s
      · replace t_s := t_s.2 c3_s
        refine w_t (pc := 15) (e_s := (1, 1, 2, 0, 0, .null, [])) (y_s := (16, [some (.ref _), some (.int _), some (.int _), none], [.int _], _)) rfl (u_ rfl) ?_
        refine w_t (pc := 16) (e_s := (0, 1, 0, 0, 0, .int 3, [])) (y_s := (17, [some (.ref _), some (.int _), some (.int _), none], [.int _, .int _], _)) rfl (u_ rfl) ?_
        refine wi5 (pc := 17) (len_s := 3) (Y := 3) rfl rfl (by decide) (fun c4_s => ?_) (fun c4_s => ?_)
        · replace t_s := t_s.1 c4_s
          refine w_t (pc := 20) (e_s := (0, 1, 0, 0, 0, .int (-1), [])) (y_s := (21, [some (.ref _), some (.int _), some (.int _), none], [.int _], _)) rfl (u_ rfl) ?_
          exact wrI (pc := 21) (len_s := 1) rfl hk t_s
        · replace t_s := t_s.2 c4_s
          refine w_t (pc := 22) (e_s := (3, 1, 0, 0, 0, .null, [])) (y_s := (23, [some (.ref _), some (.int _), some (.int _), none], [.ref _], _)) rfl (u_ rfl) ?_
          refine w20r (pc := 23) (len_s := 3) (q_s := 7) rfl (krq hk rfl) ?_
          refine w20r (pc := 26) (len_s := 3) (q_s := 10) rfl (krq hk rfl) ?_
          refine w_t (pc := 29) (e_s := (1, 1, 1, 0, 0, .null, [])) (y_s := (30, [some (.ref _), some (.int _), some (.int _), none], [.int _, .ref _], _)) rfl (u_ rfl) ?_
          refine w24 (g_s := fun j_ => 20 + j_) (pc := 30) (len_s := 1) hk rfl (hk.1 10 2 8 rfl rfl) kg10 (fun c5_s => ?_)
          replace t_s := t_s c5_s
          refine w_t (pc := 31) (e_s := (1, 1, 2, 0, 0, .null, [])) (y_s := (32, [some (.ref _), some (.int _), some (.int _), none], [.int _, .ref _], _)) rfl (u_ rfl) ?_
          refine wcI (pc := 32) (len_s := 3) rfl rfl (l := [some (.ref _), some (.int _)]) rfl (wmI t_s (fun v6 h6 hk t_s => ?_))
          replace t_s := t_s hk
          refine w_t (pc := 35) (e_s := (4, 1, 3, 0, 0, .null, [])) (y_s := (36, [some (.ref _), some (.int _), some (.int _), some (.int _)], [], _)) rfl (u_ rfl) ?_
          refine w_t (pc := 36) (e_s := (3, 1, 0, 0, 0, .null, [])) (y_s := (37, [some (.ref _), some (.int _), some (.int _), some (.int _)], [.ref _], _)) rfl (u_ rfl) ?_
          refine w20r (pc := 37) (len_s := 3) (q_s := 73) rfl (krq hk rfl) ?_
          refine w_t (pc := 40) (e_s := (1, 1, 3, 0, 0, .null, [])) (y_s := (41, [some (.ref _), some (.int _), some (.int _), some (.int _)], [.int _, .ref _], _)) rfl (u_ rfl) ?_
          refine wq0 (pc := 41) (len_s := 3) rfl rfl (fun c7_s => ?_) (fun c7_s => ?_)
          · replace t_s := t_s.1 c7_s
            refine w_t (pc := 48) (e_s := (0, 1, 0, 0, 0, .int 1, [])) (y_s := (49, [some (.ref _), some (.int _), some (.int _), some (.int _)], [.int _, .ref _], _)) rfl (u_ rfl) ?_
            refine w_t (pc := 49) (e_s := (41, 1, 0, 0, 0, .null, [])) (y_s := (50, [some (.ref _), some (.int _), some (.int _), some (.int _)], [.int _, .ref _, .int _, .ref _], _)) rfl (u_ rfl) ?_
            refine w22 (pc := 50) (len_s := 1) rfl (hk.1 73 0 5 rfl rfl) (fun c8_s => ?_)
            refine w_t (pc := 51) (e_s := (0, 1, 0, 0, 0, .int 1, [])) (y_s := (52, [some (.ref _), some (.int _), some (.int _), some (.int _)], [.int _, .int _, .int _, .ref _], _)) rfl (u_ rfl) ?_
            refine w_t (pc := 52) (e_s := (7, 1, 0, 0, 0, .null, [])) (y_s := (53, [some (.ref _), some (.int _), some (.int _), some (.int _)], [.int (_ + _), .int _, .ref _], _)) rfl (u_ rfl) ?_
            refine w25 (pc := 53) (len_s := 1) rfl (hk.1 73 0 5 rfl rfl) (fun c9_s => ?_)
            refine w_t (pc := 54) (e_s := (1, 1, 3, 0, 0, .null, [])) (y_s := (55, [some (.ref _), some (.int _), some (.int _), some (.int _)], [.int _], _)) rfl (u_ rfl) ?_
            refine wq0 (pc := 55) (len_s := 3) rfl rfl (fun c10_s => ?_) (fun c10_s => ?_)
            · skip
              refine w_t (pc := 62) (e_s := (0, 1, 0, 0, 0, .int 0, [])) (y_s := (63, [some (.ref _), some (.int _), some (.int _), some (.int _)], [.int _], _)) rfl (u_ rfl) ?_
              exact wrI (pc := 63) (len_s := 1) rfl hk t_s
            · exact absurd c7_s c10_s
          · replace t_s := t_s.2 c7_s
            refine w_t (pc := 44) (e_s := (0, 1, 0, 0, 0, .int 0, [])) (y_s := (45, [some (.ref _), some (.int _), some (.int _), some (.int _)], [.int _, .ref _], _)) rfl (u_ rfl) ?_
            refine w_t (pc := 45) (e_s := (17, 3, 49, 0, 0, .null, [])) (y_s := (49, [some (.ref _), some (.int _), some (.int _), some (.int _)], [.int _, .ref _], _)) rfl (u_ rfl) ?_
            refine w_t (pc := 49) (e_s := (41, 1, 0, 0, 0, .null, [])) (y_s := (50, [some (.ref _), some (.int _), some (.int _), some (.int _)], [.int _, .ref _, .int _, .ref _], _)) rfl (u_ rfl) ?_
            refine w22 (pc := 50) (len_s := 1) rfl (hk.1 73 0 5 rfl rfl) (fun c11_s => ?_)
            refine w_t (pc := 51) (e_s := (0, 1, 0, 0, 0, .int 1, [])) (y_s := (52, [some (.ref _), some (.int _), some (.int _), some (.int _)], [.int _, .int _, .int _, .ref _], _)) rfl (u_ rfl) ?_
            refine w_t (pc := 52) (e_s := (7, 1, 0, 0, 0, .null, [])) (y_s := (53, [some (.ref _), some (.int _), some (.int _), some (.int _)], [.int (_ + _), .int _, .ref _], _)) rfl (u_ rfl) ?_
            refine w25 (pc := 53) (len_s := 1) rfl (hk.1 73 0 5 rfl rfl) (fun c12_s => ?_)
            refine w_t (pc := 54) (e_s := (1, 1, 3, 0, 0, .null, [])) (y_s := (55, [some (.ref _), some (.int _), some (.int _), some (.int _)], [.int _], _)) rfl (u_ rfl) ?_
            refine wq0 (pc := 55) (len_s := 3) rfl rfl (fun c13_s => ?_) (fun c13_s => ?_)
            · exact absurd c13_s c7_s
            · skip
              refine w_t (pc := 58) (e_s := (0, 1, 0, 0, 0, .int 1, [])) (y_s := (59, [some (.ref _), some (.int _), some (.int _), some (.int _)], [.int _], _)) rfl (u_ rfl) ?_
              refine w_t (pc := 59) (e_s := (17, 3, 63, 0, 0, .null, [])) (y_s := (63, [some (.ref _), some (.int _), some (.int _), some (.int _)], [.int _], _)) rfl (u_ rfl) ?_
              exact wrI (pc := 63) (len_s := 1) rfl hk t_s
    · replace t_s := t_s.2 c2_s
      refine w_t (pc := 16) (e_s := (0, 1, 0, 0, 0, .int 0, [])) (y_s := (17, [some (.ref _), some (.int _)], [.int _], _)) rfl (u_ rfl) ?_
      refine wrI (pc := 17) (len_s := 1) rfl hk ?_
      show wF _ 117 (8, [some (.ref _), some (.int _), some (.int _), none], [.int _], _) _
      refine w_t (pc := 8) (e_s := (15, 3, 20, 0, 0, .null, [])) (y_s := (20, [some (.ref _), some (.int _), some (.int _), none], [], _)) rfl (u_ rfl) ?_
      refine w_t (pc := 20) (e_s := (0, 1, 0, 0, 0, .int (-1), [])) (y_s := (21, [some (.ref _), some (.int _), some (.int _), none], [.int _], _)) rfl (u_ rfl) ?_
      exact wrI (pc := 21) (len_s := 1) rfl hk t_s
/-- ColdShodModel.stroke(II)I, from 0 on -/
theorem sg_211_0 {F_s : Nat} {x1_s : Int32} {x2_s : Int32} {h_s : zH} {K_s : Int32 → zH → Prop} (hk : hKn h_s) (t_s : (x1_s.toInt < 0 → K_s (-1) h_s) ∧ (¬ x1_s.toInt < 0 → ((((h_s.2.1 102 7) - 1).toInt < x1_s.toInt → K_s (-1) h_s) ∧ (¬ ((h_s.2.1 102 7) - 1).toInt < x1_s.toInt → ((x2_s.toInt < 0 → K_s (-1) h_s) ∧ (¬ x2_s.toInt < 0 → ((3 < x2_s.toInt → K_s (-1) h_s) ∧ (¬ 3 < x2_s.toInt → wF F_s 178 (0, [some (.ref 102), some (.int x1_s), none], [], h_s) (gV (fun h5 => hKn h5 → wF F_s 184 (0, [some (.ref 102), some (.int x2_s)], [], h5) (gI (fun v6 h6 => hKn h6 → wF F_s 210 (0, [some (.ref 102), some (.int x1_s), none], [], h6) (gV (fun h7 => hKn h7 → (v6.toInt = 0 → K_s 0 (h7.1, zup h7.2.1 119 1 ((h7.2.1 119 1) + 1), h7.2.2.1, h7.2.2.2)) ∧ (¬ v6.toInt = 0 → K_s 1 (h7.1, zup h7.2.1 119 0 ((h7.2.1 119 0) + 1), h7.2.2.1, h7.2.2.2)))))))))))))))) : wF (F_s + 1) 211 (0, [some (.ref 102), some (.int x1_s), some (.int x2_s), none], [], h_s) (gI K_s) := by
  refine w_0 (pc := 0) (e_s := (3, 1, 0, 0, 0, .null, [])) (y_s := (1, [some (.ref _), some (.int _), some (.int _), none], [.ref _], _)) rfl (u_ rfl) ?_
  refine w_t (pc := 1) (e_s := (1, 1, 1, 0, 0, .null, [])) (y_s := (2, [some (.ref _), some (.int _), some (.int _), none], [.int _, .ref _], _)) rfl (u_ rfl) ?_
  refine w_t (pc := 2) (e_s := (10, 1, 0, 0, 0, .null, [])) (y_s := (3, [some (.ref _), some (.int _), some (.int _), none], [.long (Int32.toInt64 _), .ref _], _)) rfl (u_ rfl) ?_
  refine wcI (pc := 3) (len_s := 3) rfl rfl (l := [some (.ref _), some (.long _), none]) rfl ?_
  refine w_t (pc := 0) (e_s := (2, 1, 1, 0, 0, .null, [])) (y_s := (1, [some (.ref _), some (.long _), none], [.long _], _)) rfl (u_ rfl) ?_
  refine w_t (pc := 1) (e_s := (0, 1, 0, 0, 0, .long 0, [])) (y_s := (2, [some (.ref _), some (.long _), none], [.long _, .long _], _)) rfl (u_ rfl) ?_
  refine w_t (pc := 2) (e_s := (3, 1, 0, 0, 0, .null, [])) (y_s := (3, [some (.ref _), some (.long _), none], [.ref _, .long _, .long _], _)) rfl (u_ rfl) ?_
  refine w20 (pc := 3) (len_s := 3) rfl ?_
  refine w_t (pc := 6) (e_s := (0, 1, 0, 0, 0, .int 1, [])) (y_s := (7, [some (.ref _), some (.long _), none], [.int _, .int _, .long _, .long _], _)) rfl (u_ rfl) ?_
  refine w_t (pc := 7) (e_s := (7, 1, 0, 1, 0, .null, [])) (y_s := (8, [some (.ref _), some (.long _), none], [.int (_ - _), .long _, .long _], _)) rfl (u_ rfl) ?_
  refine w_t (pc := 8) (e_s := (10, 1, 0, 0, 0, .null, [])) (y_s := (9, [some (.ref _), some (.long _), none], [.long (Int32.toInt64 _), .long _, .long _], _)) rfl (u_ rfl) ?_
  refine wcI (pc := 9) (len_s := 3) rfl rfl (l := [some (.long _), none, some (.long _), none, some (.long _), none]) rfl ?_
  refine w_t (pc := 0) (e_s := (2, 1, 0, 0, 0, .null, [])) (y_s := (1, [some (.long _), none, some (.long _), none, some (.long _), none], [.long _], _)) rfl (u_ rfl) ?_
  refine w_t (pc := 1) (e_s := (2, 1, 2, 0, 0, .null, [])) (y_s := (2, [some (.long _), none, some (.long _), none, some (.long _), none], [.long _, .long _], _)) rfl (u_ rfl) ?_
  refine w_t (pc := 2) (e_s := (14, 1, 0, 0, 0, .null, [])) (y_s := (3, [some (.long _), none, some (.long _), none, some (.long _), none], [.int (lg_cmp _ _)], _)) rfl (u_ rfl) ?_
  refine wl2 (pc := 3) (len_s := 3) (Y := 0) rfl (Int32.toInt_toInt64 _) (by decide) (fun c1_s => ?_) (fun c1_s => ?_)
  · replace t_s := t_s.1 c1_s
    refine w_t (pc := 17) (e_s := (0, 1, 0, 0, 0, .int 0, [])) (y_s := (18, [some (.long _), none, some (.long _), none, some (.long _), none], [.int _], _)) rfl (u_ rfl) ?_
    refine wrI (pc := 18) (len_s := 1) rfl hk ?_
    show wF _ 152 (12, [some (.ref _), some (.long _), none], [.int _], _) _
    refine wrI (pc := 12) (len_s := 1) rfl hk ?_
    show wF _ 211 (6, [some (.ref _), some (.int _), some (.int _), none], [.int _], _) _
    refine w_t (pc := 6) (e_s := (15, 3, 21, 0, 0, .null, [])) (y_s := (21, [some (.ref _), some (.int _), some (.int _), none], [], _)) rfl (u_ rfl) ?_
    refine w_t (pc := 21) (e_s := (0, 1, 0, 0, 0, .int (-1), [])) (y_s := (22, [some (.ref _), some (.int _), some (.int _), none], [.int _], _)) rfl (u_ rfl) ?_
    exact wrI (pc := 22) (len_s := 1) rfl hk t_s
  · replace t_s := t_s.2 c1_s
    refine w_t (pc := 6) (e_s := (2, 1, 0, 0, 0, .null, [])) (y_s := (7, [some (.long _), none, some (.long _), none, some (.long _), none], [.long _], _)) rfl (u_ rfl) ?_
    refine w_t (pc := 7) (e_s := (2, 2, 4, 0, 0, .null, [])) (y_s := (9, [some (.long _), none, some (.long _), none, some (.long _), none], [.long _, .long _], _)) rfl (u_ rfl) ?_
    refine w_t (pc := 9) (e_s := (14, 1, 0, 0, 0, .null, [])) (y_s := (10, [some (.long _), none, some (.long _), none, some (.long _), none], [.int (lg_cmp _ _)], _)) rfl (u_ rfl) ?_
    refine wl4 (pc := 10) (len_s := 3) rfl (Int32.toInt_toInt64 _) (Int32.toInt_toInt64 _) (fun c2_s => ?_) (fun c2_s => ?_)
    · replace t_s := t_s.1 c2_s
      refine w_t (pc := 17) (e_s := (0, 1, 0, 0, 0, .int 0, [])) (y_s := (18, [some (.long _), none, some (.long _), none, some (.long _), none], [.int _], _)) rfl (u_ rfl) ?_
      refine wrI (pc := 18) (len_s := 1) rfl hk ?_
      show wF _ 152 (12, [some (.ref _), some (.long _), none], [.int _], _) _
      refine wrI (pc := 12) (len_s := 1) rfl hk ?_
      show wF _ 211 (6, [some (.ref _), some (.int _), some (.int _), none], [.int _], _) _
      refine w_t (pc := 6) (e_s := (15, 3, 21, 0, 0, .null, [])) (y_s := (21, [some (.ref _), some (.int _), some (.int _), none], [], _)) rfl (u_ rfl) ?_
      refine w_t (pc := 21) (e_s := (0, 1, 0, 0, 0, .int (-1), [])) (y_s := (22, [some (.ref _), some (.int _), some (.int _), none], [.int _], _)) rfl (u_ rfl) ?_
      exact wrI (pc := 22) (len_s := 1) rfl hk t_s
    · replace t_s := t_s.2 c2_s
      refine w_t (pc := 13) (e_s := (0, 1, 0, 0, 0, .int 1, [])) (y_s := (14, [some (.long _), none, some (.long _), none, some (.long _), none], [.int _], _)) rfl (u_ rfl) ?_
      refine w_t (pc := 14) (e_s := (17, 3, 18, 0, 0, .null, [])) (y_s := (18, [some (.long _), none, some (.long _), none, some (.long _), none], [.int _], _)) rfl (u_ rfl) ?_
      refine wrI (pc := 18) (len_s := 1) rfl hk ?_
      show wF _ 152 (12, [some (.ref _), some (.long _), none], [.int _], _) _
      refine wrI (pc := 12) (len_s := 1) rfl hk ?_
      show wF _ 211 (6, [some (.ref _), some (.int _), some (.int _), none], [.int _], _) _
      refine w_t (pc := 6) (e_s := (15, 3, 21, 0, 0, .null, [])) (y_s := (9, [some (.ref _), some (.int _), some (.int _), none], [], _)) rfl (u_ rfl) ?_
      refine w_t (pc := 9) (e_s := (1, 1, 2, 0, 0, .null, [])) (y_s := (10, [some (.ref _), some (.int _), some (.int _), none], [.int _], _)) rfl (u_ rfl) ?_
      refine w_t (pc := 10) (e_s := (10, 1, 0, 0, 0, .null, [])) (y_s := (11, [some (.ref _), some (.int _), some (.int _), none], [.long (Int32.toInt64 _)], _)) rfl (u_ rfl) ?_
      refine w_t (pc := 11) (e_s := (0, 1, 0, 0, 0, .long 0, [])) (y_s := (12, [some (.ref _), some (.int _), some (.int _), none], [.long _, .long _], _)) rfl (u_ rfl) ?_
      refine w_t (pc := 12) (e_s := (0, 3, 0, 0, 0, .long 3, [(0, 1064)])) (y_s := (15, [some (.ref _), some (.int _), some (.int _), none], [.long _, .long _, .long _], _)) rfl (u_ rfl) ?_
      refine wcI (pc := 15) (len_s := 3) rfl rfl (l := [some (.long _), none, some (.long _), none, some (.long _), none]) rfl ?_
      refine w_t (pc := 0) (e_s := (2, 1, 0, 0, 0, .null, [])) (y_s := (1, [some (.long _), none, some (.long _), none, some (.long _), none], [.long _], _)) rfl (u_ rfl) ?_
      refine w_t (pc := 1) (e_s := (2, 1, 2, 0, 0, .null, [])) (y_s := (2, [some (.long _), none, some (.long _), none, some (.long _), none], [.long _, .long _], _)) rfl (u_ rfl) ?_
      refine w_t (pc := 2) (e_s := (14, 1, 0, 0, 0, .null, [])) (y_s := (3, [some (.long _), none, some (.long _), none, some (.long _), none], [.int (lg_cmp _ _)], _)) rfl (u_ rfl) ?_
      refine wl2 (pc := 3) (len_s := 3) (Y := 0) rfl (Int32.toInt_toInt64 _) (by decide) (fun c3_s => ?_) (fun c3_s => ?_)
      · replace t_s := t_s.1 c3_s
        refine w_t (pc := 17) (e_s := (0, 1, 0, 0, 0, .int 0, [])) (y_s := (18, [some (.long _), none, some (.long _), none, some (.long _), none], [.int _], _)) rfl (u_ rfl) ?_
        refine wrI (pc := 18) (len_s := 1) rfl hk ?_
        show wF _ 211 (18, [some (.ref _), some (.int _), some (.int _), none], [.int _], _) _
        refine w_t (pc := 18) (e_s := (15, 3, 23, 1, 0, .null, [])) (y_s := (21, [some (.ref _), some (.int _), some (.int _), none], [], _)) rfl (u_ rfl) ?_
        refine w_t (pc := 21) (e_s := (0, 1, 0, 0, 0, .int (-1), [])) (y_s := (22, [some (.ref _), some (.int _), some (.int _), none], [.int _], _)) rfl (u_ rfl) ?_
        exact wrI (pc := 22) (len_s := 1) rfl hk t_s
      · replace t_s := t_s.2 c3_s
        refine w_t (pc := 6) (e_s := (2, 1, 0, 0, 0, .null, [])) (y_s := (7, [some (.long _), none, some (.long _), none, some (.long _), none], [.long _], _)) rfl (u_ rfl) ?_
        refine w_t (pc := 7) (e_s := (2, 2, 4, 0, 0, .null, [])) (y_s := (9, [some (.long _), none, some (.long _), none, some (.long _), none], [.long _, .long _], _)) rfl (u_ rfl) ?_
        refine w_t (pc := 9) (e_s := (14, 1, 0, 0, 0, .null, [])) (y_s := (10, [some (.long _), none, some (.long _), none, some (.long _), none], [.int (lg_cmp _ _)], _)) rfl (u_ rfl) ?_
        refine wl4 (pc := 10) (len_s := 3) (Y := 3) rfl (Int32.toInt_toInt64 _) (by decide) (fun c4_s => ?_) (fun c4_s => ?_)
        · replace t_s := t_s.1 c4_s
          refine w_t (pc := 17) (e_s := (0, 1, 0, 0, 0, .int 0, [])) (y_s := (18, [some (.long _), none, some (.long _), none, some (.long _), none], [.int _], _)) rfl (u_ rfl) ?_
          refine wrI (pc := 18) (len_s := 1) rfl hk ?_
          show wF _ 211 (18, [some (.ref _), some (.int _), some (.int _), none], [.int _], _) _
          refine w_t (pc := 18) (e_s := (15, 3, 23, 1, 0, .null, [])) (y_s := (21, [some (.ref _), some (.int _), some (.int _), none], [], _)) rfl (u_ rfl) ?_
          refine w_t (pc := 21) (e_s := (0, 1, 0, 0, 0, .int (-1), [])) (y_s := (22, [some (.ref _), some (.int _), some (.int _), none], [.int _], _)) rfl (u_ rfl) ?_
          exact wrI (pc := 22) (len_s := 1) rfl hk t_s
        · replace t_s := t_s.2 c4_s
          refine w_t (pc := 13) (e_s := (0, 1, 0, 0, 0, .int 1, [])) (y_s := (14, [some (.long _), none, some (.long _), none, some (.long _), none], [.int _], _)) rfl (u_ rfl) ?_
          refine w_t (pc := 14) (e_s := (17, 3, 18, 0, 0, .null, [])) (y_s := (18, [some (.long _), none, some (.long _), none, some (.long _), none], [.int _], _)) rfl (u_ rfl) ?_
          refine wrI (pc := 18) (len_s := 1) rfl hk ?_
          show wF _ 211 (18, [some (.ref _), some (.int _), some (.int _), none], [.int _], _) _
          refine w_t (pc := 18) (e_s := (15, 3, 23, 1, 0, .null, [])) (y_s := (23, [some (.ref _), some (.int _), some (.int _), none], [], _)) rfl (u_ rfl) ?_
          refine w_t (pc := 23) (e_s := (3, 1, 0, 0, 0, .null, [])) (y_s := (24, [some (.ref _), some (.int _), some (.int _), none], [.ref _], _)) rfl (u_ rfl) ?_
          refine w_t (pc := 24) (e_s := (1, 1, 1, 0, 0, .null, [])) (y_s := (25, [some (.ref _), some (.int _), some (.int _), none], [.int _, .ref _], _)) rfl (u_ rfl) ?_
          refine wcV (pc := 25) (len_s := 3) rfl rfl (l := [some (.ref _), some (.int _), none]) rfl (wmV t_s (fun h5 hk t_s => ?_))
          replace t_s := t_s hk
          refine w_t (pc := 28) (e_s := (3, 1, 0, 0, 0, .null, [])) (y_s := (29, [some (.ref _), some (.int _), some (.int _), none], [.ref _], _)) rfl (u_ rfl) ?_
          refine w_t (pc := 29) (e_s := (1, 1, 2, 0, 0, .null, [])) (y_s := (30, [some (.ref _), some (.int _), some (.int _), none], [.int _, .ref _], _)) rfl (u_ rfl) ?_
          refine wcI (pc := 30) (len_s := 3) rfl rfl (l := [some (.ref _), some (.int _)]) rfl (wmI t_s (fun v6 h6 hk t_s => ?_))
          replace t_s := t_s hk
          refine w_t (pc := 33) (e_s := (4, 1, 3, 0, 0, .null, [])) (y_s := (34, [some (.ref _), some (.int _), some (.int _), some (.int _)], [], _)) rfl (u_ rfl) ?_
          refine w_t (pc := 34) (e_s := (3, 1, 0, 0, 0, .null, [])) (y_s := (35, [some (.ref _), some (.int _), some (.int _), some (.int _)], [.ref _], _)) rfl (u_ rfl) ?_
          refine w_t (pc := 35) (e_s := (1, 1, 1, 0, 0, .null, [])) (y_s := (36, [some (.ref _), some (.int _), some (.int _), some (.int _)], [.int _, .ref _], _)) rfl (u_ rfl) ?_
          refine wcV (pc := 36) (len_s := 3) rfl rfl (l := [some (.ref _), some (.int _), none]) rfl (wmV t_s (fun h7 hk t_s => ?_))
          replace t_s := t_s hk
          refine w_t (pc := 39) (e_s := (3, 1, 0, 0, 0, .null, [])) (y_s := (40, [some (.ref _), some (.int _), some (.int _), some (.int _)], [.ref _], _)) rfl (u_ rfl) ?_
          refine w20r (pc := 40) (len_s := 3) (q_s := 119) rfl (krq hk rfl) ?_
          refine w_t (pc := 43) (e_s := (1, 1, 3, 0, 0, .null, [])) (y_s := (44, [some (.ref _), some (.int _), some (.int _), some (.int _)], [.int _, .ref _], _)) rfl (u_ rfl) ?_
          refine wq0 (pc := 44) (len_s := 3) rfl rfl (fun c8_s => ?_) (fun c8_s => ?_)
          · replace t_s := t_s.1 c8_s
            refine w_t (pc := 51) (e_s := (0, 1, 0, 0, 0, .int 1, [])) (y_s := (52, [some (.ref _), some (.int _), some (.int _), some (.int _)], [.int _, .ref _], _)) rfl (u_ rfl) ?_
            refine w_t (pc := 52) (e_s := (41, 1, 0, 0, 0, .null, [])) (y_s := (53, [some (.ref _), some (.int _), some (.int _), some (.int _)], [.int _, .ref _, .int _, .ref _], _)) rfl (u_ rfl) ?_
            refine w22 (pc := 53) (len_s := 1) rfl (hk.1 119 0 5 rfl rfl) (fun c9_s => ?_)
            refine w_t (pc := 54) (e_s := (0, 1, 0, 0, 0, .int 1, [])) (y_s := (55, [some (.ref _), some (.int _), some (.int _), some (.int _)], [.int _, .int _, .int _, .ref _], _)) rfl (u_ rfl) ?_
            refine w_t (pc := 55) (e_s := (7, 1, 0, 0, 0, .null, [])) (y_s := (56, [some (.ref _), some (.int _), some (.int _), some (.int _)], [.int (_ + _), .int _, .ref _], _)) rfl (u_ rfl) ?_
            refine w25 (pc := 56) (len_s := 1) rfl (hk.1 119 0 5 rfl rfl) (fun c10_s => ?_)
            refine w_t (pc := 57) (e_s := (1, 1, 3, 0, 0, .null, [])) (y_s := (58, [some (.ref _), some (.int _), some (.int _), some (.int _)], [.int _], _)) rfl (u_ rfl) ?_
            refine wq0 (pc := 58) (len_s := 3) rfl rfl (fun c11_s => ?_) (fun c11_s => ?_)
            · skip
              refine w_t (pc := 65) (e_s := (0, 1, 0, 0, 0, .int 0, [])) (y_s := (66, [some (.ref _), some (.int _), some (.int _), some (.int _)], [.int _], _)) rfl (u_ rfl) ?_
              exact wrI (pc := 66) (len_s := 1) rfl hk t_s
            · exact absurd c8_s c11_s
          · replace t_s := t_s.2 c8_s
            refine w_t (pc := 47) (e_s := (0, 1, 0, 0, 0, .int 0, [])) (y_s := (48, [some (.ref _), some (.int _), some (.int _), some (.int _)], [.int _, .ref _], _)) rfl (u_ rfl) ?_
            refine w_t (pc := 48) (e_s := (17, 3, 52, 0, 0, .null, [])) (y_s := (52, [some (.ref _), some (.int _), some (.int _), some (.int _)], [.int _, .ref _], _)) rfl (u_ rfl) ?_
            refine w_t (pc := 52) (e_s := (41, 1, 0, 0, 0, .null, [])) (y_s := (53, [some (.ref _), some (.int _), some (.int _), some (.int _)], [.int _, .ref _, .int _, .ref _], _)) rfl (u_ rfl) ?_
            refine w22 (pc := 53) (len_s := 1) rfl (hk.1 119 0 5 rfl rfl) (fun c12_s => ?_)
            refine w_t (pc := 54) (e_s := (0, 1, 0, 0, 0, .int 1, [])) (y_s := (55, [some (.ref _), some (.int _), some (.int _), some (.int _)], [.int _, .int _, .int _, .ref _], _)) rfl (u_ rfl) ?_
            refine w_t (pc := 55) (e_s := (7, 1, 0, 0, 0, .null, [])) (y_s := (56, [some (.ref _), some (.int _), some (.int _), some (.int _)], [.int (_ + _), .int _, .ref _], _)) rfl (u_ rfl) ?_
            refine w25 (pc := 56) (len_s := 1) rfl (hk.1 119 0 5 rfl rfl) (fun c13_s => ?_)
            refine w_t (pc := 57) (e_s := (1, 1, 3, 0, 0, .null, [])) (y_s := (58, [some (.ref _), some (.int _), some (.int _), some (.int _)], [.int _], _)) rfl (u_ rfl) ?_
            refine wq0 (pc := 58) (len_s := 3) rfl rfl (fun c14_s => ?_) (fun c14_s => ?_)
            · exact absurd c14_s c8_s
            · skip
              refine w_t (pc := 61) (e_s := (0, 1, 0, 0, 0, .int 1, [])) (y_s := (62, [some (.ref _), some (.int _), some (.int _), some (.int _)], [.int _], _)) rfl (u_ rfl) ?_
              refine w_t (pc := 62) (e_s := (17, 3, 66, 0, 0, .null, [])) (y_s := (66, [some (.ref _), some (.int _), some (.int _), some (.int _)], [.int _], _)) rfl (u_ rfl) ?_
              exact wrI (pc := 66) (len_s := 1) rfl hk t_s
/-! STROKES: as told of numbers; class and reference. -/
noncomputable def hetO (o : oI) : oI := if (o 4).toInt = 1 ∧ 0 < (o 5).toInt then o else oset (oset o 3 (if 6 < (o 3).toInt then 9 else o 3 + 3)) 5 (if 8 < (o 5).toInt then 9 else o 5 + 1)
noncomputable def naiO (o : oI) : oI := if (o 3).toInt < 1 then o else oset (oset o 3 (o 3 - 1)) 2 (if (o 2).toInt < 10 then 0 else o 2 - 10)
noncomputable def drwO (o : oI) (e_s : Int32) : oI := if (o 3).toInt < 2 ∨ (o 1 + e_s).toInt < 0 ∨ 5 < (o 1 + e_s).toInt then o else oset (oset o 3 (o 3 - 2)) 1 (o 1 + e_s)
noncomputable def stO (w_s : Int) (o : oI) : oI := if w_s = 0 then hetO o else if w_s = 3 then naiO o else if w_s = 1 then drwO o 1 else if w_s = 2 then drwO o (-1) else o
section SO
variable {o : oI}
theorem stO_0 {w_s : Int} (e_s : w_s = 0) : stO w_s o = hetO o := by
  unfold stO
  rw [if_pos e_s]
theorem stO_3 {w_s : Int} (e_s : w_s = 3) : stO w_s o = naiO o := by
  unfold stO
  rw [if_neg (by omega), if_pos e_s]
theorem stO_1 {w_s : Int} (e_s : w_s = 1) : stO w_s o = drwO o 1 := by
  unfold stO
  rw [if_neg (by omega), if_neg (by omega), if_pos e_s]
theorem stO_2 {w_s : Int} (e_s : w_s = 2) : stO w_s o = drwO o (-1) := by
  unfold stO
  rw [if_neg (by omega), if_neg (by omega), if_neg (by omega), if_pos e_s]
theorem stO_n {w_s : Int} (e_s : ¬ (w_s = 0 ∨ w_s = 3 ∨ w_s = 1 ∨ w_s = 2)) : stO w_s o = o := by
  unfold stO
  rw [if_neg (by omega), if_neg (by omega), if_neg (by omega), if_neg (by omega)]
theorem sub_i {x_s c_s : Int32} (h0 : 0 ≤ x_s.toInt) (h1 : 0 ≤ c_s.toInt) : (x_s - c_s).toInt = x_s.toInt - c_s.toInt := by
  have r_s := na_rng x_s
  have s_s := na_rng c_s
  exact na_sub (by omega) (by omega)
theorem add_i {x_s c_s : Int32} (h0 : 0 ≤ x_s.toInt) (h1 : x_s.toInt ≤ 1000) (h2 : -1 ≤ c_s.toInt) (h3 : c_s.toInt ≤ 1000) : (x_s + c_s).toInt = x_s.toInt + c_s.toInt := na_add (by omega) (by omega)
theorem mx_sub {x_s c_s : Int32} (h0 : 0 ≤ x_s.toInt) (h1 : 0 ≤ c_s.toInt) : (if 0 < x_s - c_s then x_s - c_s else 0) = if x_s.toInt < c_s.toInt then 0 else x_s - c_s := by
  have e_s := sub_i h0 h1
  by_cases w_s : 0 < x_s - c_s
  · have w1_s := (iq4 _).mp w_s
    rw [if_pos w_s, if_neg (by omega)]
  · have w1_s : ¬ 0 < (x_s - c_s).toInt := fun u_s => w_s ((iq4 _).mpr u_s)
    rw [if_neg w_s]
    by_cases w2_s : x_s.toInt < c_s.toInt
    · rw [if_pos w2_s]
    · rw [if_neg w2_s]
      exact (i0_ (by omega)).symm
theorem mn_add9 {x_s c_s : Int32} (h0 : 0 ≤ x_s.toInt) (h1 : x_s.toInt ≤ 9) (h2 : 0 ≤ c_s.toInt) (h3 : c_s.toInt ≤ 9) : (if x_s + c_s < 9 then x_s + c_s else 9) = if 9 - c_s.toInt < x_s.toInt then 9 else x_s + c_s := by
  have e_s := add_i (c_s := c_s) h0 (by omega) (by omega) (by omega)
  by_cases w_s : x_s + c_s < 9
  · have w1_s := (il_ _ _).mp w_s
    rw [i9_] at w1_s
    rw [if_pos w_s, if_neg (by omega)]
  · have w1_s : ¬ (x_s + c_s).toInt < 9 := fun u_s => w_s ((il_ _ _).mpr (by rw [i9_]; exact u_s))
    rw [if_neg w_s]
    by_cases w2_s : 9 - c_s.toInt < x_s.toInt
    · rw [if_pos w2_s]
    · rw [if_neg w2_s]
      exact Int32.toInt_inj.mp (by rw [i9_]; omega)
theorem i10_ : (10 : Int32).toInt = 10 := rfl
theorem m1_ : (-1 : Int32).toInt = -1 := rfl
theorem sb_ad {x_s : Int32} (h0 : 0 ≤ x_s.toInt) : x_s - 1 = x_s + -1 := by
  have r_s := na_rng x_s
  refine Int32.toInt_inj.mp ?_
  rw [sub_i h0 (by decide), n1_, na_add (by rw [m1_]; omega) (by rw [m1_]; omega), m1_]
  omega
theorem st_B {w_s : Int} (hB_s : oB o) : oB (stO w_s o) := by
  obtain ⟨b0, b1, b2, b3, b4, b5, b6⟩ := hB_s
  have hB_s : oB o := ⟨b0, b1, b2, b3, b4, b5, b6⟩
  have hh : oB (hetO o) := by
    unfold hetO
    split
    · exact hB_s
    · refine ⟨b0, b1, b2, ?_, b4, ?_, b6⟩
      · show 0 ≤ (if 6 < (o 3).toInt then 9 else o 3 + 3).toInt ∧ (if 6 < (o 3).toInt then 9 else o 3 + 3).toInt ≤ 9
        split
        · decide
        · rw [add_i b3.1 (by omega) (by decide) (by decide), i3_]
          omega
      · show 0 ≤ (if 8 < (o 5).toInt then 9 else o 5 + 1).toInt ∧ (if 8 < (o 5).toInt then 9 else o 5 + 1).toInt ≤ 9
        split
        · decide
        · rw [add_i b5.1 (by omega) (by decide) (by decide), n1_]
          omega
  have hn : oB (naiO o) := by
    unfold naiO
    split
    · exact hB_s
    · refine ⟨b0, b1, ?_, ?_, b4, b5, b6⟩
      · show 0 ≤ (if (o 2).toInt < 10 then 0 else o 2 - 10).toInt ∧ (if (o 2).toInt < 10 then 0 else o 2 - 10).toInt ≤ 99
        split
        · decide
        · rw [sub_i b2.1 (by decide), i10_]
          omega
      · show 0 ≤ (o 3 - 1).toInt ∧ (o 3 - 1).toInt ≤ 9
        rw [sub_i b3.1 (by decide), n1_]
        omega
  have hd_s : ∀ e_s : Int32, oB (drwO o e_s) := fun e_s => by
    unfold drwO
    split
    · exact hB_s
    · refine ⟨b0, ?_, b2, ?_, b4, b5, b6⟩
      · show 0 ≤ (o 1 + e_s).toInt ∧ (o 1 + e_s).toInt ≤ 5
        omega
      · show 0 ≤ (o 3 - 2).toInt ∧ (o 3 - 2).toInt ≤ 9
        rw [sub_i b3.1 (by decide), i2_]
        omega
  unfold stO
  split
  · exact hh
  · split
    · exact hn
    · split
      · exact hd_s 1
      · split
        · exact hd_s (-1)
        · exact hB_s
end SO
/-- what a stroke of the class may write -/
noncomputable def frS (d_s : Nat) (f_s f1_s : Nat → Nat → Int32) : Prop := ∀ a_s k_s, ¬ (a_s = d_s ∧ (k_s = 1 ∨ k_s = 2 ∨ k_s = 3 ∨ k_s = 5)) → f1_s a_s k_s = f_s a_s k_s
section SK_
variable {F_s : Nat} {h_s : zH} {K_s : Int32 → zH → Prop} {d_s : Nat} {x1_s : Int32} {f_s : Nat → Nat → Int32} {o : oI}
theorem set2 {j1 j2_s : Nat} {v1_s v2 : Int32} (hc_s : ∀ k_s, k_s < 6 → f_s d_s k_s = o k_s) (k_s : Nat) (hk : k_s < 6) : zup (zup f_s d_s j1 v1_s) d_s j2_s v2 d_s k_s = oset (oset o j1 v1_s) j2_s v2 k_s := by
  by_cases e_s : k_s = j2_s
  · rw [e_s, zsame_up, os_eq]
  · rw [zne_up (by omega), os_ne e_s]
    by_cases e1_s : k_s = j1
    · rw [e1_s, zsame_up, os_eq]
    · rw [zne_up (by omega), os_ne e1_s]
      exact hc_s k_s hk
theorem oset_sw {j1 j2_s : Nat} {v1_s v2 : Int32} (h_s : ¬ j1 = j2_s) : oset (oset o j1 v1_s) j2_s v2 = oset (oset o j2_s v2) j1 v1_s := by
  funext k_s
  by_cases e_s : k_s = j2_s
  · rw [e_s, os_eq, os_ne (fun w_s => h_s w_s.symm), os_eq]
  · rw [os_ne e_s]
    by_cases e1_s : k_s = j1
    · rw [e1_s, os_eq, os_eq]
    · rw [os_ne e1_s, os_ne e1_s, os_ne e_s]
theorem sp_43 (hk : hKn h_s) (hc_s : ∀ k_s, k_s < 6 → f_s d_s k_s = o k_s) (hB_s : oB o) (t_s : ∀ v_s f1_s, (∀ k_s, k_s < 6 → f1_s d_s k_s = stO x1_s.toInt o k_s) → frS d_s f_s f1_s → (v_s.toInt = 0 ∧ (∀ k_s, stO x1_s.toInt o k_s = o k_s) ∨ v_s.toInt = 1) → K_s v_s (h_s.1, f1_s, h_s.2.2.1, h_s.2.2.2)) : wF F_s 43 (0, [some (.ref d_s), some (.int x1_s)], [], (h_s.1, f_s, h_s.2.2.1, h_s.2.2.2)) (gI K_s) := by
  obtain ⟨b0, b1, b2, b3, b4, b5, b6⟩ := hB_s
  have c1_ : f_s d_s 1 = o 1 := hc_s 1 (by omega)
  have c2_ : f_s d_s 2 = o 2 := hc_s 2 (by omega)
  have c3_ : f_s d_s 3 = o 3 := hc_s 3 (by omega)
  have c4_ : f_s d_s 4 = o 4 := hc_s 4 (by omega)
  have c5_ : f_s d_s 5 = o 5 := hc_s 5 (by omega)
  have nop_s : (∀ k_s, stO x1_s.toInt o k_s = o k_s) → K_s 0 (h_s.1, f_s, h_s.2.2.1, h_s.2.2.2) := fun w_s => t_s 0 f_s (fun k_s hk6 => by rw [w_s k_s]; exact hc_s k_s hk6) (fun _ _ _ => rfl) (Or.inl ⟨rfl, w_s⟩)
  have heat : x1_s.toInt = 0 → ¬ ((o 4).toInt = 1 ∧ 0 < (o 5).toInt) → K_s 1 (h_s.1, zup (zup f_s d_s 3 (if o 3 + 3 < 9 then o 3 + 3 else 9)) d_s 5 (if o 5 + 1 < 9 then o 5 + 1 else 9), h_s.2.2.1, h_s.2.2.2) := fun w_s w1_s => by
    refine t_s 1 _ (fun k_s hk6 => ?_) (fun a_s k_s q_s => by rw [zne_up (by omega), zne_up (by omega)]) (Or.inr rfl)
    rw [set2 hc_s k_s hk6, stO_0 w_s, mn_add9 b3.1 b3.2 (by decide) (by decide), mn_add9 b5.1 b5.2 (by decide) (by decide)]
    unfold hetO
    rw [if_neg w1_s]
    rfl
  have draw_s : ∀ e_s : Int32, stO x1_s.toInt o = drwO o e_s → ¬ ((o 3).toInt < 2 ∨ (o 1 + e_s).toInt < 0 ∨ 5 < (o 1 + e_s).toInt) → K_s 1 (h_s.1, zup (zup f_s d_s 1 (o 1 + e_s)) d_s 3 (if 0 < o 3 - 2 then o 3 - 2 else 0), h_s.2.2.1, h_s.2.2.2) := fun e_s w_s w1_s => by
    refine t_s 1 _ (fun k_s hk6 => ?_) (fun a_s k_s q_s => by rw [zne_up (by omega), zne_up (by omega)]) (Or.inr rfl)
    rw [set2 hc_s k_s hk6, w_s, mx_sub b3.1 (by decide), if_neg (show ¬ (o 3).toInt < (2 : Int32).toInt by rw [i2_]; omega)]
    unfold drwO
    rw [if_neg w1_s, oset_sw (by omega)]
  have nod : ∀ e_s : Int32, stO x1_s.toInt o = drwO o e_s → ((o 3).toInt < 2 ∨ (o 1 + e_s).toInt < 0 ∨ 5 < (o 1 + e_s).toInt) → K_s 0 (h_s.1, f_s, h_s.2.2.1, h_s.2.2.2) := fun e_s w_s w1_s => nop_s (fun k_s => by
    rw [w_s]
    unfold drwO
    rw [if_pos w1_s])
  refine wF_le (Nat.le_succ F_s) (sg_43_0 (h_s := (h_s.1, f_s, h_s.2.2.1, h_s.2.2.2)) hk ?_)
  dsimp only
  have z35 : ∀ v_s, zup f_s d_s 3 v_s d_s 5 = o 5 := fun v_s => by rw [zne_up (by omega)]; exact c5_
  simp only [c1_, c2_, c3_, c4_, c5_, z35, sb_ad b1.1]
  have z11 : ∀ v_s, zup f_s d_s 1 v_s d_s 3 = o 3 := fun v_s => by rw [zne_up (by omega)]; exact c3_
  have z21 : ∀ v_s, zup f_s d_s 2 v_s d_s 3 = o 3 := fun v_s => by rw [zne_up (by omega)]; exact c3_
  simp only [z11, z21]
  refine ⟨fun c1_s => ⟨fun c2_s => ⟨fun c3_s => ⟨fun c4_s => ⟨fun c5_s => ?_, fun c5_s => ?_⟩, fun c4_s => ?_⟩, fun c3_s => ?_⟩, fun c2_s => ⟨fun c6_s => ⟨fun c7_s => ?_, fun c7_s => ?_⟩, fun c6_s => ?_⟩⟩, fun c1_s => ⟨fun c8_s => ⟨fun c9_s => ?_, fun c9_s => ⟨fun c10_s => ?_, fun c10_s => ⟨fun c11_s => ?_, fun c11_s => ?_⟩⟩⟩, fun c8_s => ⟨fun c12_s => ⟨fun c13_s => ?_, fun c13_s => ⟨fun c14_s => ?_, fun c14_s => ⟨fun c15_s => ?_, fun c15_s => ?_⟩⟩⟩, fun c12_s => ⟨fun c16 => ⟨fun c17 => ?_, fun c17 => ?_⟩, fun c16 => ?_⟩⟩⟩⟩
  · refine nop_s (fun k_s => ?_)
    rw [stO_0 c1_s]
    unfold hetO
    rw [if_neg (by omega), if_pos (by omega), if_pos (by omega)]
    by_cases e_s : k_s = 5
    · rw [e_s, os_eq]
      exact Int32.toInt_inj.mp (by rw [i9_]; omega)
    · rw [os_ne e_s]
      by_cases e1_s : k_s = 3
      · rw [e1_s, os_eq]
        exact Int32.toInt_inj.mp (by rw [i9_]; omega)
      · rw [os_ne e1_s]
  · exact heat c1_s (by omega)
  · exact heat c1_s (by omega)
  · refine nop_s (fun k_s => ?_)
    rw [stO_0 c1_s]
    unfold hetO
    rw [if_pos (by omega)]
  · refine nop_s (fun k_s => ?_)
    rw [stO_0 c1_s]
    unfold hetO
    rw [if_neg (by omega), if_pos (by omega), if_pos (by omega)]
    by_cases e_s : k_s = 5
    · rw [e_s, os_eq]
      exact Int32.toInt_inj.mp (by rw [i9_]; omega)
    · rw [os_ne e_s]
      by_cases e1_s : k_s = 3
      · rw [e1_s, os_eq]
        exact Int32.toInt_inj.mp (by rw [i9_]; omega)
      · rw [os_ne e1_s]
  · exact heat c1_s (by omega)
  · exact heat c1_s (by omega)
  · exact nod 1 (stO_1 (by omega)) (Or.inl c9_s)
  · exact nod 1 (stO_1 (by omega)) (Or.inr (Or.inl c10_s))
  · exact nod 1 (stO_1 (by omega)) (Or.inr (Or.inr c11_s))
  · exact draw_s 1 (stO_1 (by omega)) (by omega)
  · exact nod (-1) (stO_2 (by omega)) (Or.inl c13_s)
  · exact nod (-1) (stO_2 (by omega)) (Or.inr (Or.inl c14_s))
  · exact nod (-1) (stO_2 (by omega)) (Or.inr (Or.inr c15_s))
  · exact draw_s (-1) (stO_2 (by omega)) (by omega)
  · refine nop_s (fun k_s => ?_)
    rw [stO_3 (by omega)]
    unfold naiO
    rw [if_pos c17]
  · refine t_s 1 _ (fun k_s hk6 => ?_) (fun a_s k_s q_s => by rw [zne_up (by omega), zne_up (by omega)]) (Or.inr rfl)
    rw [set2 hc_s k_s hk6, stO_3 (by omega), mx_sub b3.1 (by decide), mx_sub b2.1 (by decide), if_neg (show ¬ (o 3).toInt < (1 : Int32).toInt by rw [n1_]; omega)]
    unfold naiO
    rw [if_neg c17, oset_sw (by omega)]
    rfl
  · exact nop_s (fun k_s => by rw [stO_n (by omega)])
/-- the reference -/
theorem sp_184 (hk : hKn h_s) (hx : 0 ≤ x1_s.toInt ∧ x1_s.toInt ≤ 3) (hc_s : ∀ k_s, k_s < 7 → f_s 112 k_s = o k_s) (hB_s : oB o) (t_s : ∀ v_s f1_s, (∀ k_s, k_s < 7 → f1_s 112 k_s = stO x1_s.toInt o k_s) → (∀ a_s k_s, ¬ a_s = 112 → f1_s a_s k_s = f_s a_s k_s) → K_s v_s (h_s.1, f1_s, h_s.2.2.1, h_s.2.2.2)) : wF F_s 184 (0, [some (.ref 102), some (.int x1_s)], [], (h_s.1, f_s, h_s.2.2.1, h_s.2.2.2)) (gI K_s) := by
  obtain ⟨b0, b1, b2, b3, b4, b5, b6⟩ := hB_s
  have c1_ : f_s 112 1 = o 1 := hc_s 1 (by omega)
  have c2_ : f_s 112 2 = o 2 := hc_s 2 (by omega)
  have c3_ : f_s 112 3 = o 3 := hc_s 3 (by omega)
  have c4_ : f_s 112 4 = o 4 := hc_s 4 (by omega)
  have c5_ : f_s 112 5 = o 5 := hc_s 5 (by omega)
  have nop_s : (∀ k_s, stO x1_s.toInt o k_s = o k_s) → K_s 0 (h_s.1, f_s, h_s.2.2.1, h_s.2.2.2) := fun w_s => t_s 0 f_s (fun k_s hk6 => by rw [w_s k_s]; exact hc_s k_s hk6) (fun _ _ _ => rfl)
  have two_s : ∀ (j1 j2_s : Nat) (v1_s v2 : Int32), stO x1_s.toInt o = oset (oset o j1 v1_s) j2_s v2 → K_s 1 (h_s.1, zup (zup f_s 112 j1 v1_s) 112 j2_s v2, h_s.2.2.1, h_s.2.2.2) := fun j1 j2_s v1_s v2 w_s => by
    refine t_s 1 _ (fun k_s hk7 => ?_) (fun a_s k_s q_s => by rw [zne_up (by omega), zne_up (by omega)])
    rw [w_s]
    by_cases e_s : k_s = j2_s
    · rw [e_s, zsame_up, os_eq]
    · rw [zne_up (by omega), os_ne e_s]
      by_cases e1_s : k_s = j1
      · rw [e1_s, zsame_up, os_eq]
      · rw [zne_up (by omega), os_ne e1_s]
        exact hc_s k_s hk7
  have heat : x1_s.toInt = 0 → ¬ ((o 4).toInt = 1 ∧ 0 < (o 5).toInt) → ∀ u_s v_s : Int32, u_s = (if 6 < (o 3).toInt then 9 else o 3 + 3) → v_s = (if 8 < (o 5).toInt then 9 else o 5 + 1) → K_s 1 (h_s.1, zup (zup f_s 112 3 u_s) 112 5 v_s, h_s.2.2.1, h_s.2.2.2) := fun w_s w1_s u_s v_s hu hv => two_s 3 5 u_s v_s (by
    rw [stO_0 w_s, hu, hv]
    unfold hetO
    rw [if_neg w1_s])
  have nod : ∀ e_s : Int32, stO x1_s.toInt o = drwO o e_s → ((o 3).toInt < 2 ∨ (o 1 + e_s).toInt < 0 ∨ 5 < (o 1 + e_s).toInt) → K_s 0 (h_s.1, f_s, h_s.2.2.1, h_s.2.2.2) := fun e_s w_s w1_s => nop_s (fun k_s => by
    rw [w_s]
    unfold drwO
    rw [if_pos w1_s])
  have draw_s : ∀ e_s : Int32, stO x1_s.toInt o = drwO o e_s → ¬ ((o 3).toInt < 2 ∨ (o 1 + e_s).toInt < 0 ∨ 5 < (o 1 + e_s).toInt) → K_s 1 (h_s.1, zup (zup f_s 112 3 (o 3 - 2)) 112 1 (o 1 + e_s), h_s.2.2.1, h_s.2.2.2) := fun e_s w_s w1_s => two_s 3 1 _ _ (by
    rw [w_s]
    unfold drwO
    rw [if_neg w1_s])
  refine wF_le (Nat.le_succ F_s) (sg_184_0 (h_s := (h_s.1, f_s, h_s.2.2.1, h_s.2.2.2)) hk ?_)
  dsimp only
  rw [c1_, c2_, c3_, c4_, c5_]
  refine ⟨fun c1_s => ⟨fun c3_s => ⟨fun c5_s => ?_, fun c5_s => ⟨fun c7_s => ⟨fun c10_s => ?_, fun c10_s => ?_⟩, fun c7_s => ⟨fun c17 => ?_, fun c17 => ?_⟩⟩⟩, fun c3_s => ⟨fun c22 => ⟨fun c25_s => ?_, fun c25_s => ?_⟩, fun c22 => ⟨fun c32_s => ?_, fun c32_s => ?_⟩⟩⟩, fun c1_s => ⟨fun c36_s => ⟨fun c38 => ?_, fun c38 => ⟨fun c42 => ?_, fun c42 => ?_⟩⟩, fun c36_s => ⟨fun c46_s => ⟨fun c48_s => ?_, fun c48_s => ⟨fun c50 => ?_, fun c50 => ⟨fun c51_s => ?_, fun c51_s => ?_⟩⟩⟩, fun c46_s => ⟨fun c57 => ?_, fun c57 => ⟨fun c59 => ?_, fun c59 => ⟨fun c60 => ?_, fun c60 => ?_⟩⟩⟩⟩⟩⟩
  · refine nop_s (fun k_s => ?_)
    rw [stO_0 c1_s]
    unfold hetO
    rw [if_pos (by omega)]
  · exact heat c1_s (by omega) _ _ (by rw [if_pos c7_s]) (by rw [if_pos c10_s])
  · exact heat c1_s (by omega) _ _ (by rw [if_pos c7_s]) (by rw [if_neg c10_s])
  · exact heat c1_s (by omega) _ _ (by rw [if_neg c7_s]) (by rw [if_pos c17])
  · exact heat c1_s (by omega) _ _ (by rw [if_neg c7_s]) (by rw [if_neg c17])
  · exact heat c1_s (by omega) _ _ (by rw [if_pos c22]) (by rw [if_pos c25_s])
  · exact heat c1_s (by omega) _ _ (by rw [if_pos c22]) (by rw [if_neg c25_s])
  · exact heat c1_s (by omega) _ _ (by rw [if_neg c22]) (by rw [if_pos c32_s])
  · exact heat c1_s (by omega) _ _ (by rw [if_neg c22]) (by rw [if_neg c32_s])
  · refine nop_s (fun k_s => ?_)
    rw [stO_3 c36_s]
    unfold naiO
    rw [if_pos c38]
  · refine two_s 3 2 _ _ ?_
    rw [stO_3 c36_s]
    unfold naiO
    rw [if_neg c38, if_pos c42]
  · refine two_s 3 2 _ _ ?_
    rw [stO_3 c36_s]
    unfold naiO
    rw [if_neg c38, if_neg c42]
  · exact nod 1 (stO_1 c46_s) (Or.inl c48_s)
  · exact nod 1 (stO_1 c46_s) (Or.inr (Or.inl c50))
  · exact nod 1 (stO_1 c46_s) (Or.inr (Or.inr c51_s))
  · exact draw_s 1 (stO_1 c46_s) (by omega)
  · exact nod (-1) (stO_2 (by omega)) (Or.inl c57)
  · exact nod (-1) (stO_2 (by omega)) (Or.inr (Or.inl c59))
  · exact nod (-1) (stO_2 (by omega)) (Or.inr (Or.inr c60))
  · exact draw_s (-1) (stO_2 (by omega)) (by omega)
end SK_
/-! THE WHOLE STATE: what class and reference have in common; what leaves it as it is. -/
noncomputable def okN (nh ni nr n_s w_s : Nat) : Prop := n_s < (if w_s < 2 then nh else if w_s < 9 then ni else nr)
/-- a change that is kept: number n of what w -/
noncomputable def chT (nh ni nr : Nat) (f_s : Nat → Nat → Int32) (k_s : Nat) : Prop := ∃ n_s w_s : Nat, w_s < 12 ∧ okN nh ni nr n_s w_s ∧ (f_s 43 k_s).toInt = (n_s : Int) ∧ (f_s 44 k_s).toInt = (w_s : Int) ∧ (f_s 104 k_s).toInt = (plc n_s w_s : Int) ∧ f_s 105 k_s = f_s 45 k_s ∧ f_s 106 k_s = f_s 46 k_s ∧ vB nh nr n_s w_s (f_s 45 k_s).toInt ∧ vB nh nr n_s w_s (f_s 46 k_s).toInt
noncomputable def tH (nh ni nr : Nat) (f_s : Nat → Nat → Int32) : Prop := ∃ u_s r_s : Nat, u_s + r_s ≤ 40 ∧ (f_s 42 0).toInt = (u_s : Int) ∧ (f_s 42 1).toInt = (r_s : Int) ∧ (f_s 102 5).toInt = (u_s : Int) ∧ (f_s 102 4).toInt = ((u_s + r_s : Nat) : Int) ∧ ∀ k_s, k_s < u_s + r_s → chT nh ni nr f_s k_s
noncomputable def tI (nh ni nr : Nat) (f_s : Nat → Nat → Int32) : Prop := ((f_s 6 12).toInt = -1 ∧ (f_s 102 35).toInt = 0) ∨ (∃ ic : Nat, ic ≤ ni ∧ (f_s 6 12).toInt = (ic : Int) ∧ (f_s 102 36).toInt = (ic : Int) ∧ ¬ (f_s 102 35).toInt = 0 ∧ (∀ i_s k_s, i_s < ic → k_s < 7 → ¬ k_s = 0 → ¬ k_s = 4 → f_s (94 + i_s) k_s = f_s 120 (12 + 8 * k_s + i_s) ∧ vB nh nr i_s (k_s + 2) (f_s 120 (12 + 8 * k_s + i_s)).toInt) ∧ (∀ k_s, 2 ≤ k_s → k_s ≤ 4 → f_s 75 k_s = f_s 121 k_s))
noncomputable def tD (f_s : Nat → Nat → Int32) : Prop := ∀ k_s, 2 ≤ k_s → k_s ≤ 4 → f_s 73 k_s = f_s 119 k_s
noncomputable def lsW (w_s : Nat) : Int := if w_s = 8 then -1 else if w_s = 9 then 1 else 0
noncomputable def msW (w_s : Nat) : Int := if w_s = 8 then 5 else mxw w_s
noncomputable def tZ (f_s : Nat → Nat → Int32) : Prop := (∀ k_s, k_s < 12 → (f_s 1 k_s).toInt = msW k_s ∧ (f_s 2 k_s).toInt = lsW k_s) ∧ ((f_s 3 0).toInt = 4 ∧ (f_s 3 1).toInt = 0 ∧ (f_s 3 2).toInt = 3)
noncomputable def tX (h_s : zH) : Prop := ∃ nh ni nr : Nat, tC nh ni nr h_s.2.1 ∧ tH nh ni nr h_s.2.1 ∧ tI nh ni nr h_s.2.1 ∧ tD h_s.2.1 ∧ tZ h_s.2.1 ∧ tLw h_s
noncomputable def inH (o k_s : Nat) : Prop := (o = 42 ∧ k_s < 2) ∨ (43 ≤ o ∧ o ≤ 46 ∧ k_s < 40) ∨ (o = 102 ∧ (k_s = 4 ∨ k_s = 5)) ∨ (104 ≤ o ∧ o ≤ 106 ∧ k_s < 40)
noncomputable def inI (o k_s : Nat) : Prop := (o = 6 ∧ k_s = 12) ∨ (94 ≤ o ∧ o < 102 ∧ k_s < 7) ∨ (o = 75 ∧ k_s < 5) ∨ (o = 102 ∧ (k_s = 35 ∨ k_s = 36)) ∨ (o = 120 ∧ k_s < 104) ∨ (o = 121 ∧ k_s < 5)
noncomputable def inD (o k_s : Nat) : Prop := (o = 73 ∨ o = 119) ∧ 2 ≤ k_s ∧ k_s ≤ 4
noncomputable def inZ (o k_s : Nat) : Prop := (o = 1 ∧ k_s < 12) ∨ (o = 2 ∧ k_s < 12) ∨ (o = 3 ∧ k_s < 3)
noncomputable def inW (o k_s : Nat) : Prop := ((o = 14 ∨ o = 17) ∧ k_s < 3) ∨ ((o = 15 ∨ o = 18) ∧ k_s < 242) ∨ (o = 102 ∧ k_s = 14) ∨ (o = 110 ∧ k_s < 120)
section TXF
variable {nh ni nr : Nat} {f_s f1_s : Nat → Nat → Int32}
theorem chT_fr {k_s : Nat} (hf : ∀ o, (43 ≤ o ∧ o ≤ 46) ∨ (104 ≤ o ∧ o ≤ 106) → f1_s o k_s = f_s o k_s) (h_s : chT nh ni nr f_s k_s) : chT nh ni nr f1_s k_s := by
  obtain ⟨n_s, w_s, a1_s, a2, a3, a4, a5, a6, a7, a8, a9⟩ := h_s
  refine ⟨n_s, w_s, a1_s, a2, ?_, ?_, ?_, ?_, ?_, ?_, ?_⟩
  · rw [hf 43 (by omega)]
    exact a3
  · rw [hf 44 (by omega)]
    exact a4
  · rw [hf 104 (by omega)]
    exact a5
  · rw [hf 105 (by omega), hf 45 (by omega)]
    exact a6
  · rw [hf 106 (by omega), hf 46 (by omega)]
    exact a7
  · rw [hf 45 (by omega)]
    exact a8
  · rw [hf 46 (by omega)]
    exact a9
theorem tH_fr (hf : ∀ o k_s, inH o k_s → f1_s o k_s = f_s o k_s) (h_s : tH nh ni nr f_s) : tH nh ni nr f1_s := by
  obtain ⟨u_s, r_s, a1_s, a2, a3, a4, a5, a6⟩ := h_s
  refine ⟨u_s, r_s, a1_s, ?_, ?_, ?_, ?_, fun k_s hk => chT_fr (fun o ho => hf o k_s (by unfold inH; omega)) (a6 k_s hk)⟩
  · rw [hf 42 0 (by unfold inH; omega)]
    exact a2
  · rw [hf 42 1 (by unfold inH; omega)]
    exact a3
  · rw [hf 102 5 (by unfold inH; omega)]
    exact a4
  · rw [hf 102 4 (by unfold inH; omega)]
    exact a5
theorem tI_fr (hf : ∀ o k_s, inI o k_s → f1_s o k_s = f_s o k_s) (h_s : tI nh ni nr f_s) (h8 : ni ≤ 8) : tI nh ni nr f1_s := by
  rcases h_s with ⟨a1_s, a2⟩ | ⟨ic, a1_s, a2, a3, a4, a5, a6⟩
  · refine Or.inl ⟨?_, ?_⟩
    · rw [hf 6 12 (by unfold inI; omega)]
      exact a1_s
    · rw [hf 102 35 (by unfold inI; omega)]
      exact a2
  · refine Or.inr ⟨ic, a1_s, ?_, ?_, ?_, fun i_s k_s hi_s hk h0 h4 => ?_, fun k_s h0 h4 => ?_⟩
    · rw [hf 6 12 (by unfold inI; omega)]
      exact a2
    · rw [hf 102 36 (by unfold inI; omega)]
      exact a3
    · rw [hf 102 35 (by unfold inI; omega)]
      exact a4
    · rw [hf (94 + i_s) k_s (by unfold inI; omega), hf 120 (12 + 8 * k_s + i_s) (by unfold inI; omega)]
      exact a5 i_s k_s hi_s hk h0 h4
    · rw [hf 75 k_s (by unfold inI; omega), hf 121 k_s (by unfold inI; omega)]
      exact a6 k_s h0 h4
theorem tD_fr (hf : ∀ o k_s, inD o k_s → f1_s o k_s = f_s o k_s) (h_s : tD f_s) : tD f1_s := fun k_s h0 h4 => by
  rw [hf 73 k_s (by unfold inD; omega), hf 119 k_s (by unfold inD; omega)]
  exact h_s k_s h0 h4
theorem tZ_fr (hf : ∀ o k_s, inZ o k_s → f1_s o k_s = f_s o k_s) (h_s : tZ f_s) : tZ f1_s := by
  obtain ⟨a1_s, a2, a3, a4⟩ := h_s
  refine ⟨fun k_s hk => ?_, ?_, ?_, ?_⟩
  · rw [hf 1 k_s (by unfold inZ; omega), hf 2 k_s (by unfold inZ; omega)]
    exact a1_s k_s hk
  · rw [hf 3 0 (by unfold inZ; omega)]
    exact a2
  · rw [hf 3 1 (by unfold inZ; omega)]
    exact a3
  · rw [hf 3 2 (by unfold inZ; omega)]
    exact a4
theorem lawC_w {q_s : Nat} {lw : Option (List pB)} (hm_s : q_s = 14 ∨ q_s = 17) (hf : ∀ o k_s, inW o k_s → f1_s o k_s = f_s o k_s) (hl : lawC q_s f_s lw) : lawC q_s f1_s lw := by
  match lw, hl with
  | none, hl => exact ⟨by rw [hf q_s 2 (by unfold inW; omega)]; exact hl.1, by rw [hf q_s 0 (by unfold inW; omega)]; exact hl.2⟩
  | some ls, hl =>
    obtain ⟨a1_s, a2, a3, a4, a5, a6⟩ := hl
    refine ⟨by rw [hf q_s 2 (by unfold inW; omega)]; exact a1_s, a2, fun j_s c_s hj => ?_, by rw [hf q_s 0 (by unfold inW; omega)]; exact a4, a5, a6⟩
    have hl := zget_lt hj
    rw [hf (q_s + 1) j_s (by unfold inW; omega)]
    exact a3 j_s c_s hj
theorem tLw_fr {h_s h1 : zH} (hr : ∀ k_s, h1.2.2.2 7 k_s = h_s.2.2.2 7 k_s) (hf : ∀ o k_s, inW o k_s → h1.2.1 o k_s = h_s.2.1 o k_s) (hl : tLw h_s) : tLw h1 := by
  obtain ⟨q_s, q2_s, lw, a1_s, a2, a3, a4, a5⟩ := hl
  exact ⟨q_s, q2_s, lw, by rw [hr]; exact a1_s, by rw [hr]; exact a2, a3, lawC_w (by omega) hf a4, lawR_fr (hf _ _ (by unfold inW; omega)) (fun k_s hk => hf _ _ (by unfold inW; omega)) a5⟩
theorem vB_mono {nh1 nr1 n_s w_s : Nat} {v_s : Int} (h1 : nh ≤ nh1) (h2 : nr ≤ nr1) (h3 : w_s = 9 → n_s < nr) (h_s : vB nh nr n_s w_s v_s) : vB nh1 nr1 n_s w_s v_s := by
  by_cases e_s : w_s = 8
  · subst e_s
    rw [vB_8] at h_s ⊢
    omega
  · rw [vB_n e_s] at h_s ⊢
    exact ⟨h_s.1, h_s.2.1, fun e9_s _ => h_s.2.2 e9_s (h3 e9_s)⟩
theorem okN_mono {nh1 ni1 nr1 n_s w_s : Nat} (h1 : nh ≤ nh1) (h2 : nr ≤ nr1) (h3 : ni ≤ ni1) (h_s : okN nh ni nr n_s w_s) : okN nh1 ni1 nr1 n_s w_s := by
  unfold okN at h_s ⊢
  by_cases a_s : w_s < 2
  · rw [if_pos a_s] at h_s ⊢
    omega
  · rw [if_neg a_s] at h_s ⊢
    by_cases b_s : w_s < 9
    · rw [if_pos b_s] at h_s ⊢
      omega
    · rw [if_neg b_s] at h_s ⊢
      omega
theorem tH_mono {nh1 ni1 nr1 : Nat} (h1 : nh ≤ nh1) (h2 : nr ≤ nr1) (h3 : ni ≤ ni1) (h_s : tH nh ni nr f_s) : tH nh1 ni1 nr1 f_s := by
  obtain ⟨u_s, r_s, a1_s, a2, a3, a4, a5, a6⟩ := h_s
  refine ⟨u_s, r_s, a1_s, a2, a3, a4, a5, fun k_s hk => ?_⟩
  obtain ⟨n_s, w_s, b1, b2, b3, b4, b5, b6, b7, b8, b9⟩ := a6 k_s hk
  have h9 : w_s = 9 → n_s < nr := fun e_s => by
    rw [e_s] at b2
    exact b2
  exact ⟨n_s, w_s, b1, okN_mono h1 h2 h3 b2, b3, b4, b5, b6, b7, vB_mono h1 h2 h9 b8, vB_mono h1 h2 h9 b9⟩
theorem tI_mono {nh1 ni1 nr1 : Nat} (h1 : nh ≤ nh1) (h2 : nr ≤ nr1) (h3 : ni ≤ ni1) (h_s : tI nh ni nr f_s) : tI nh1 ni1 nr1 f_s := by
  rcases h_s with h_s | ⟨ic, a1_s, a2, a3, a4, a5, a6⟩
  · exact Or.inl h_s
  · exact Or.inr ⟨ic, by omega, a2, a3, a4, fun i_s k_s hi_s hk h0 h4 => ⟨(a5 i_s k_s hi_s hk h0 h4).1, vB_mono h1 h2 (fun e_s => absurd e_s (by omega)) (a5 i_s k_s hi_s hk h0 h4).2⟩, a6⟩
end TXF
/-- all of the cells -/
noncomputable def inX (o k_s : Nat) : Prop := inC o k_s ∨ inH o k_s ∨ inI o k_s ∨ inD o k_s ∨ inZ o k_s ∨ inW o k_s
theorem inX_no {o k_s : Nat} (h_s : inX o k_s) : (¬ o = 12 ∧ ¬ o = 13 ∧ ¬ o = 16 ∧ ¬ o = 19) ∧ ¬ (47 ≤ o ∧ o ≤ 72) ∧ ¬ (76 ≤ o ∧ o ≤ 93) ∧ ¬ o = 109 ∧ ¬ (111 ≤ o ∧ o ≤ 118) ∧ ¬ 122 ≤ o := by
  unfold inX inC inH inI inD inZ inW at h_s
  omega
theorem tX_fr {h_s h1 : zH} (hr : ∀ k_s, h1.2.2.2 7 k_s = h_s.2.2.2 7 k_s) (hf : ∀ o k_s, inX o k_s → h1.2.1 o k_s = h_s.2.1 o k_s) (hx : tX h_s) : tX h1 := by
  obtain ⟨nh, ni, nr, a1_s, a2, a3, a4, a5, a6⟩ := hx
  exact ⟨nh, ni, nr, tC_fr (fun o k_s q_s => hf o k_s (Or.inl q_s)) a1_s, tH_fr (fun o k_s q_s => hf o k_s (Or.inr (Or.inl q_s))) a2, tI_fr (fun o k_s q_s => hf o k_s (Or.inr (Or.inr (Or.inl q_s)))) a3 a1_s.1.2.1, tD_fr (fun o k_s q_s => hf o k_s (Or.inr (Or.inr (Or.inr (Or.inl q_s))))) a4, tZ_fr (fun o k_s q_s => hf o k_s (Or.inr (Or.inr (Or.inr (Or.inr (Or.inl q_s)))))) a5, tLw_fr hr (fun o k_s q_s => hf o k_s (Or.inr (Or.inr (Or.inr (Or.inr (Or.inr q_s)))))) a6⟩
/-- the cells as rows: (from, to, how many places from which on) -/
noncomputable def xRows : List (Nat × Nat × Nat × Nat) := [(7, 7, 6, 9), (8, 9, 0, 6), (20, 27, 0, 7), (28, 39, 0, 5), (102, 102, 4, 9), (103, 103, 0, 104), (107, 108, 0, 12), (42, 42, 0, 2), (43, 46, 0, 40), (104, 106, 0, 40), (6, 6, 12, 13), (94, 101, 0, 7), (75, 75, 0, 5), (102, 102, 35, 37), (120, 120, 0, 104), (121, 121, 0, 5), (73, 73, 2, 5), (119, 119, 2, 5), (1, 2, 0, 12), (3, 3, 0, 3), (14, 14, 0, 3), (17, 17, 0, 3), (15, 15, 0, 242), (18, 18, 0, 242), (102, 102, 14, 15), (110, 110, 0, 120)]
/-- a write set that leaves them alone -/
noncomputable def tXok (W_s : aW) : Bool := W_s.2.all (fun o => xRows.all (fun r_s => Nat.blt o r_s.1 || Nat.blt r_s.2.1 o)) && W_s.1.all (fun p_s => xRows.all (fun r_s => (Nat.blt p_s.1 r_s.1 || Nat.blt r_s.2.1 p_s.1) || (Nat.blt p_s.2 r_s.2.2.1 || Nat.ble r_s.2.2.2 p_s.2)))
theorem tXok_row {W_s : aW} (hw : tXok W_s = true) {r_s : Nat × Nat × Nat × Nat} (hr : r_s ∈ xRows) {o k_s : Nat} (h1 : r_s.1 ≤ o) (h2 : o ≤ r_s.2.1) (h3 : r_s.2.2.1 ≤ k_s) (h4 : k_s < r_s.2.2.2) : aWf W_s o k_s = false := by
  unfold tXok at hw
  rw [Bool.and_eq_true] at hw
  cases e_s : aWf W_s o k_s with
  | false => rfl
  | true =>
    exfalso
    unfold aWf at e_s
    rw [Bool.and_eq_true, Bool.or_eq_true] at e_s
    rcases e_s.2 with e_s | e_s
    · have u_s := List.all_eq_true.mp (List.all_eq_true.mp hw.1 o (awe_mem e_s)) r_s hr
      rw [Bool.or_eq_true, Nat.blt_eq, Nat.blt_eq] at u_s
      omega
    · have u_s := List.all_eq_true.mp (List.all_eq_true.mp hw.2 (o, k_s) (awp_mem e_s)) r_s hr
      rw [Bool.or_eq_true, Bool.or_eq_true, Bool.or_eq_true, Nat.blt_eq, Nat.blt_eq, Nat.blt_eq, Nat.ble_eq] at u_s
      dsimp only at u_s
      omega
theorem tXok_in {W_s : aW} (hw : tXok W_s = true) {o k_s : Nat} (h_s : inX o k_s) : aWf W_s o k_s = false := by
  have go_s : ∀ (a_s b_s c_s d_s : Nat), (a_s, b_s, c_s, d_s) ∈ xRows → a_s ≤ o → o ≤ b_s → c_s ≤ k_s → k_s < d_s → aWf W_s o k_s = false := fun _ _ _ _ hr h1 h2 h3 h4 => tXok_row hw hr h1 h2 h3 h4
  rcases h_s with h_s | h_s | h_s | h_s | h_s | h_s
  · rcases h_s with h_s | h_s | h_s | h_s | h_s | h_s | h_s
    · exact go_s 7 7 6 9 (by decide) (by omega) (by omega) (by omega) (by omega)
    · exact go_s 8 9 0 6 (by decide) (by omega) (by omega) (by omega) (by omega)
    · exact go_s 20 27 0 7 (by decide) (by omega) (by omega) (by omega) (by omega)
    · exact go_s 28 39 0 5 (by decide) (by omega) (by omega) (by omega) (by omega)
    · exact go_s 102 102 4 9 (by decide) (by omega) (by omega) (by omega) (by omega)
    · exact go_s 103 103 0 104 (by decide) (by omega) (by omega) (by omega) (by omega)
    · exact go_s 107 108 0 12 (by decide) (by omega) (by omega) (by omega) (by omega)
  · rcases h_s with h_s | h_s | h_s | h_s
    · exact go_s 42 42 0 2 (by decide) (by omega) (by omega) (by omega) (by omega)
    · exact go_s 43 46 0 40 (by decide) (by omega) (by omega) (by omega) (by omega)
    · exact go_s 102 102 4 9 (by decide) (by omega) (by omega) (by omega) (by omega)
    · exact go_s 104 106 0 40 (by decide) (by omega) (by omega) (by omega) (by omega)
  · rcases h_s with h_s | h_s | h_s | h_s | h_s | h_s
    · exact go_s 6 6 12 13 (by decide) (by omega) (by omega) (by omega) (by omega)
    · exact go_s 94 101 0 7 (by decide) (by omega) (by omega) (by omega) (by omega)
    · exact go_s 75 75 0 5 (by decide) (by omega) (by omega) (by omega) (by omega)
    · exact go_s 102 102 35 37 (by decide) (by omega) (by omega) (by omega) (by omega)
    · exact go_s 120 120 0 104 (by decide) (by omega) (by omega) (by omega) (by omega)
    · exact go_s 121 121 0 5 (by decide) (by omega) (by omega) (by omega) (by omega)
  · obtain ⟨h_s | h_s, h2, h4⟩ := h_s
    · exact go_s 73 73 2 5 (by decide) (by omega) (by omega) (by omega) (by omega)
    · exact go_s 119 119 2 5 (by decide) (by omega) (by omega) (by omega) (by omega)
  · rcases h_s with h_s | h_s | h_s
    · exact go_s 1 2 0 12 (by decide) (by omega) (by omega) (by omega) (by omega)
    · exact go_s 1 2 0 12 (by decide) (by omega) (by omega) (by omega) (by omega)
    · exact go_s 3 3 0 3 (by decide) (by omega) (by omega) (by omega) (by omega)
  · rcases h_s with ⟨h_s | h_s, h3⟩ | ⟨h_s | h_s, h3⟩ | h_s | h_s
    · exact go_s 14 14 0 3 (by decide) (by omega) (by omega) (by omega) (by omega)
    · exact go_s 17 17 0 3 (by decide) (by omega) (by omega) (by omega) (by omega)
    · exact go_s 15 15 0 242 (by decide) (by omega) (by omega) (by omega) (by omega)
    · exact go_s 18 18 0 242 (by decide) (by omega) (by omega) (by omega) (by omega)
    · exact go_s 102 102 14 15 (by decide) (by omega) (by omega) (by omega) (by omega)
    · exact go_s 110 110 0 120 (by decide) (by omega) (by omega) (by omega) (by omega)
/-- calls that leave all that alone -/
theorem tX_call {W_s : aW} (hw : tXok W_s = true) {h_s h1 : zH} (fr_s : aFr (aWf W_s) h_s h1) (hr : h1.2.2.2 = h_s.2.2.2) (hx : tX h_s) : tX h1 := tX_fr (fun k_s => by rw [hr]) (fun o k_s q_s => fr_s.1 o k_s (tXok_in hw q_s)) hx
theorem wRf {F_s mi : Nat} {x_s : zC} (hm_s : rfX mi = false) : wF F_s mi x_s (fun _ h1 => h1.2.2.2 = x_s.2.2.2.2.2.2) := fun f_s d_s r_s h1 _ hr => (rf_run f_s d_s mi x_s r_s h1 hm_s hr).1.2
theorem wrI_ {F_s mi : Nat} {x_s : zC} {K_s : Int32 → zH → Prop} (hm_s : rfX mi = false) (a_s : wF F_s mi x_s (gI K_s)) : wF F_s mi x_s (gI (fun v_s h_s => K_s v_s h_s ∧ h_s.2.2.2 = x_s.2.2.2.2.2.2)) := by
  intro f_s d_s r_s h1 hf hr
  obtain ⟨v_s, e1_s, k1_s, p1_s⟩ := a_s f_s d_s r_s h1 hf hr
  exact ⟨v_s, e1_s, k1_s, p1_s, (rf_run f_s d_s mi x_s r_s h1 hm_s hr).1.2⟩
theorem wrJ_ {F_s mi : Nat} {x_s : zC} {K_s : Int64 → zH → Prop} (hm_s : rfX mi = false) (a_s : wF F_s mi x_s (gJ K_s)) : wF F_s mi x_s (gJ (fun v_s h_s => K_s v_s h_s ∧ h_s.2.2.2 = x_s.2.2.2.2.2.2)) := by
  intro f_s d_s r_s h1 hf hr
  obtain ⟨v_s, e1_s, k1_s, p1_s⟩ := a_s f_s d_s r_s h1 hf hr
  exact ⟨v_s, e1_s, k1_s, p1_s, (rf_run f_s d_s mi x_s r_s h1 hm_s hr).1.2⟩
/-! What ended runs give: printed by a program (wip/fun/sg.py). -/
/-- ColdShod.goes(II)I, from 0 on -/
theorem sg_118_0 {F_s : Nat} {x1_s : Int32} {x2_s : Int32} {h_s : zH} {K_s : Int32 → zH → Prop} (hk : hKn h_s) (t_s : (x1_s.toInt < 0 → K_s (-1) h_s) ∧ (¬ x1_s.toInt < 0 → ((x1_s.toInt < (h_s.2.1 7 7).toInt → ((x2_s.toInt < 0 → K_s (-1) h_s) ∧ (¬ x2_s.toInt < 0 → ((x2_s.toInt < (h_s.2.1 7 8).toInt → (zix x1_s < 8 → (zix x2_s < 12 → ((h_s.2.1 (20 + (zix x1_s)) 2).toInt < 99 → (((9 - ((h_s.2.1 (20 + (zix x1_s)) 2) / 11)).toInt < (h_s.2.1 (28 + (zix x2_s)) 3).toInt → K_s (-5) h_s) ∧ (¬ (9 - ((h_s.2.1 (20 + (zix x1_s)) 2) / 11)).toInt < (h_s.2.1 (28 + (zix x2_s)) 3).toInt → wF F_s 24 (0, [some (.ref 7), some (.ref (20 + (zix x1_s))), some (.ref (28 + (zix x2_s))), none, none], [], h_s) (gI (fun v9 h9 => hKn h9 → (v9.toInt = ((zup h9.2.1 73 3 ((h9.2.1 73 3) + v9)) (28 + (zix x2_s)) 2).toInt → ((((zup (zup h9.2.1 73 3 ((h9.2.1 73 3) + v9)) 73 2 ((h9.2.1 73 2) + 1)) (20 + (zix x1_s)) 2).toInt < 99 → K_s v9 (h9.1, zup (zup h9.2.1 73 3 ((h9.2.1 73 3) + v9)) 73 2 ((h9.2.1 73 2) + 1), h9.2.2.1, h9.2.2.2)) ∧ (¬ ((zup (zup h9.2.1 73 3 ((h9.2.1 73 3) + v9)) 73 2 ((h9.2.1 73 2) + 1)) (20 + (zix x1_s)) 2).toInt < 99 → K_s v9 (h9.1, zup (zup (zup h9.2.1 73 3 ((h9.2.1 73 3) + v9)) 73 2 ((h9.2.1 73 2) + 1)) 73 4 ((h9.2.1 73 4) + 1), h9.2.2.1, h9.2.2.2)))) ∧ (¬ v9.toInt = ((zup h9.2.1 73 3 ((h9.2.1 73 3) + v9)) (28 + (zix x2_s)) 2).toInt → ((((zup h9.2.1 73 3 ((h9.2.1 73 3) + v9)) (20 + (zix x1_s)) 2).toInt < 99 → K_s v9 (h9.1, zup h9.2.1 73 3 ((h9.2.1 73 3) + v9), h9.2.2.1, h9.2.2.2)) ∧ (¬ ((zup h9.2.1 73 3 ((h9.2.1 73 3) + v9)) (20 + (zix x1_s)) 2).toInt < 99 → K_s v9 (h9.1, zup (zup h9.2.1 73 3 ((h9.2.1 73 3) + v9)) 73 4 ((h9.2.1 73 4) + 1), h9.2.2.1, h9.2.2.2))))))))) ∧ (¬ (h_s.2.1 (20 + (zix x1_s)) 2).toInt < 99 → K_s (-5) h_s)))) ∧ (¬ x2_s.toInt < (h_s.2.1 7 8).toInt → K_s (-1) h_s))))) ∧ (¬ x1_s.toInt < (h_s.2.1 7 7).toInt → K_s (-1) h_s)))) : wF (F_s + 1) 118 (0, [some (.ref 6), some (.int x1_s), some (.int x2_s), none, none, none], [], h_s) (gI K_s) := by
  refine w_0 (pc := 0) (e_s := (3, 1, 0, 0, 0, .null, [])) (y_s := (1, [some (.ref _), some (.int _), some (.int _), none, none, none], [.ref _], _)) rfl (u_ rfl) ?_
  refine w20r (pc := 1) (len_s := 3) (q_s := 7) rfl (krq hk rfl) ?_
  refine w_t (pc := 4) (e_s := (1, 1, 1, 0, 0, .null, [])) (y_s := (5, [some (.ref _), some (.int _), some (.int _), none, none, none], [.int _, .ref _], _)) rfl (u_ rfl) ?_
  refine wcI (pc := 5) (len_s := 3) rfl rfl (l := [some (.ref _), some (.int _)]) rfl ?_
  refine w_t (pc := 0) (e_s := (1, 1, 1, 0, 0, .null, [])) (y_s := (1, [some (.ref _), some (.int _)], [.int _], _)) rfl (u_ rfl) ?_
  refine wq2 (pc := 1) (len_s := 3) rfl rfl (fun c1_s => ?_) (fun c1_s => ?_)
  · replace t_s := t_s.1 c1_s
    refine w_t (pc := 16) (e_s := (0, 1, 0, 0, 0, .int 0, [])) (y_s := (17, [some (.ref _), some (.int _)], [.int _], _)) rfl (u_ rfl) ?_
    refine wrI (pc := 17) (len_s := 1) rfl hk ?_
    show wF _ 118 (8, [some (.ref _), some (.int _), some (.int _), none, none, none], [.int _], _) _
    refine w_t (pc := 8) (e_s := (15, 3, 22, 0, 0, .null, [])) (y_s := (22, [some (.ref _), some (.int _), some (.int _), none, none, none], [], _)) rfl (u_ rfl) ?_
    refine w_t (pc := 22) (e_s := (0, 1, 0, 0, 0, .int (-1), [])) (y_s := (23, [some (.ref _), some (.int _), some (.int _), none, none, none], [.int _], _)) rfl (u_ rfl) ?_
    exact wrI (pc := 23) (len_s := 1) rfl hk t_s
  · replace t_s := t_s.2 c1_s
    refine w_t (pc := 4) (e_s := (1, 1, 1, 0, 0, .null, [])) (y_s := (5, [some (.ref _), some (.int _)], [.int _], _)) rfl (u_ rfl) ?_
    refine w_t (pc := 5) (e_s := (3, 1, 0, 0, 0, .null, [])) (y_s := (6, [some (.ref _), some (.int _)], [.ref _, .int _], _)) rfl (u_ rfl) ?_
    refine w20 (pc := 6) (len_s := 3) rfl ?_
    refine wi3 (pc := 9) (len_s := 3) rfl rfl rfl (fun c2_s => ?_) (fun c2_s => ?_)
    · replace t_s := t_s.1 c2_s
      refine w_t (pc := 12) (e_s := (0, 1, 0, 0, 0, .int 1, [])) (y_s := (13, [some (.ref _), some (.int _)], [.int _], _)) rfl (u_ rfl) ?_
      refine w_t (pc := 13) (e_s := (17, 3, 17, 0, 0, .null, [])) (y_s := (17, [some (.ref _), some (.int _)], [.int _], _)) rfl (u_ rfl) ?_
      refine wrI (pc := 17) (len_s := 1) rfl hk ?_
      show wF _ 118 (8, [some (.ref _), some (.int _), some (.int _), none, none, none], [.int _], _) _
      refine w_t (pc := 8) (e_s := (15, 3, 22, 0, 0, .null, [])) (y_s := (11, [some (.ref _), some (.int _), some (.int _), none, none, none], [], _)) rfl (u_ rfl) ?_
      refine w_t (pc := 11) (e_s := (3, 1, 0, 0, 0, .null, [])) (y_s := (12, [some (.ref _), some (.int _), some (.int _), none, none, none], [.ref _], _)) rfl (u_ rfl) ?_
      refine w20r (pc := 12) (len_s := 3) (q_s := 7) rfl (krq hk rfl) ?_
      refine w_t (pc := 15) (e_s := (1, 1, 2, 0, 0, .null, [])) (y_s := (16, [some (.ref _), some (.int _), some (.int _), none, none, none], [.int _, .ref _], _)) rfl (u_ rfl) ?_
      refine wcI (pc := 16) (len_s := 3) rfl rfl (l := [some (.ref _), some (.int _)]) rfl ?_
      refine w_t (pc := 0) (e_s := (1, 1, 1, 0, 0, .null, [])) (y_s := (1, [some (.ref _), some (.int _)], [.int _], _)) rfl (u_ rfl) ?_
      refine wq2 (pc := 1) (len_s := 3) rfl rfl (fun c3_s => ?_) (fun c3_s => ?_)
      · replace t_s := t_s.1 c3_s
        refine w_t (pc := 16) (e_s := (0, 1, 0, 0, 0, .int 0, [])) (y_s := (17, [some (.ref _), some (.int _)], [.int _], _)) rfl (u_ rfl) ?_
        refine wrI (pc := 17) (len_s := 1) rfl hk ?_
        show wF _ 118 (19, [some (.ref _), some (.int _), some (.int _), none, none, none], [.int _], _) _
        refine w_t (pc := 19) (e_s := (15, 3, 24, 1, 0, .null, [])) (y_s := (22, [some (.ref _), some (.int _), some (.int _), none, none, none], [], _)) rfl (u_ rfl) ?_
        refine w_t (pc := 22) (e_s := (0, 1, 0, 0, 0, .int (-1), [])) (y_s := (23, [some (.ref _), some (.int _), some (.int _), none, none, none], [.int _], _)) rfl (u_ rfl) ?_
        exact wrI (pc := 23) (len_s := 1) rfl hk t_s
      · replace t_s := t_s.2 c3_s
        refine w_t (pc := 4) (e_s := (1, 1, 1, 0, 0, .null, [])) (y_s := (5, [some (.ref _), some (.int _)], [.int _], _)) rfl (u_ rfl) ?_
        refine w_t (pc := 5) (e_s := (3, 1, 0, 0, 0, .null, [])) (y_s := (6, [some (.ref _), some (.int _)], [.ref _, .int _], _)) rfl (u_ rfl) ?_
        refine w20 (pc := 6) (len_s := 3) rfl ?_
        refine wi3 (pc := 9) (len_s := 3) rfl rfl rfl (fun c4_s => ?_) (fun c4_s => ?_)
        · replace t_s := t_s.1 c4_s
          refine w_t (pc := 12) (e_s := (0, 1, 0, 0, 0, .int 1, [])) (y_s := (13, [some (.ref _), some (.int _)], [.int _], _)) rfl (u_ rfl) ?_
          refine w_t (pc := 13) (e_s := (17, 3, 17, 0, 0, .null, [])) (y_s := (17, [some (.ref _), some (.int _)], [.int _], _)) rfl (u_ rfl) ?_
          refine wrI (pc := 17) (len_s := 1) rfl hk ?_
          show wF _ 118 (19, [some (.ref _), some (.int _), some (.int _), none, none, none], [.int _], _) _
          refine w_t (pc := 19) (e_s := (15, 3, 24, 1, 0, .null, [])) (y_s := (24, [some (.ref _), some (.int _), some (.int _), none, none, none], [], _)) rfl (u_ rfl) ?_
          refine w_t (pc := 24) (e_s := (3, 1, 0, 0, 0, .null, [])) (y_s := (25, [some (.ref _), some (.int _), some (.int _), none, none, none], [.ref _], _)) rfl (u_ rfl) ?_
          refine w20r (pc := 25) (len_s := 3) (q_s := 7) rfl (krq hk rfl) ?_
          refine w20r (pc := 28) (len_s := 3) (q_s := 10) rfl (krq hk rfl) ?_
          refine w_t (pc := 31) (e_s := (1, 1, 1, 0, 0, .null, [])) (y_s := (32, [some (.ref _), some (.int _), some (.int _), none, none, none], [.int _, .ref _], _)) rfl (u_ rfl) ?_
          refine w24 (g_s := fun j_ => 20 + j_) (pc := 32) (len_s := 1) hk rfl (hk.1 10 2 8 rfl rfl) kg10 (fun c5_s => ?_)
          replace t_s := t_s c5_s
          refine w_t (pc := 33) (e_s := (6, 1, 3, 0, 0, .null, [])) (y_s := (34, [some (.ref _), some (.int _), some (.int _), some (.ref _), none, none], [], _)) rfl (u_ rfl) ?_
          refine w_t (pc := 34) (e_s := (3, 1, 0, 0, 0, .null, [])) (y_s := (35, [some (.ref _), some (.int _), some (.int _), some (.ref _), none, none], [.ref _], _)) rfl (u_ rfl) ?_
          refine w20r (pc := 35) (len_s := 3) (q_s := 7) rfl (krq hk rfl) ?_
          refine w20r (pc := 38) (len_s := 3) (q_s := 11) rfl (krq hk rfl) ?_
          refine w_t (pc := 41) (e_s := (1, 1, 2, 0, 0, .null, [])) (y_s := (42, [some (.ref _), some (.int _), some (.int _), some (.ref _), none, none], [.int _, .ref _], _)) rfl (u_ rfl) ?_
          refine w24 (g_s := fun j_ => 28 + j_) (pc := 42) (len_s := 1) hk rfl (hk.1 11 3 12 rfl rfl) kg11 (fun c6_s => ?_)
          replace t_s := t_s c6_s
          refine w_t (pc := 43) (e_s := (6, 2, 4, 0, 0, .null, [])) (y_s := (45, [some (.ref _), some (.int _), some (.int _), some (.ref _), some (.ref _), none], [], _)) rfl (u_ rfl) ?_
          refine w_t (pc := 45) (e_s := (3, 1, 3, 0, 0, .null, [])) (y_s := (46, [some (.ref _), some (.int _), some (.int _), some (.ref _), some (.ref _), none], [.ref _], _)) rfl (u_ rfl) ?_
          refine w_t (pc := 46) (e_s := (3, 2, 4, 0, 0, .null, [])) (y_s := (48, [some (.ref _), some (.int _), some (.int _), some (.ref _), some (.ref _), none], [.ref _, .ref _], _)) rfl (u_ rfl) ?_
          refine wcI (pc := 48) (len_s := 3) rfl rfl (l := [some (.ref _), some (.ref _)]) rfl ?_
          refine w_t (pc := 0) (e_s := (3, 1, 0, 0, 0, .null, [])) (y_s := (1, [some (.ref _), some (.ref _)], [.ref _], _)) rfl (u_ rfl) ?_
          refine wcI (pc := 1) (len_s := 3) rfl rfl (l := [some (.ref _)]) rfl ?_
          refine w_t (pc := 0) (e_s := (3, 1, 0, 0, 0, .null, [])) (y_s := (1, [some (.ref _)], [.ref _], _)) rfl (u_ rfl) ?_
          refine w20 (pc := 1) (len_s := 3) rfl ?_
          refine w_t (pc := 4) (e_s := (0, 2, 0, 0, 0, .int 99, [])) (y_s := (6, [some (.ref _)], [.int _, .int _], _)) rfl (u_ rfl) ?_
          refine wi2 (pc := 6) (len_s := 3) (Y := 99) rfl rfl (by decide) (fun c7_s => ?_) (fun c7_s => ?_)
          · replace t_s := t_s.1 c7_s
            refine w_t (pc := 13) (e_s := (0, 1, 0, 0, 0, .int 0, [])) (y_s := (14, [some (.ref _)], [.int _], _)) rfl (u_ rfl) ?_
            refine wrI (pc := 14) (len_s := 1) rfl hk ?_
            show wF _ 40 (4, [some (.ref _), some (.ref _)], [.int _], _) _
            refine w_t (pc := 4) (e_s := (15, 3, 19, 1, 0, .null, [])) (y_s := (7, [some (.ref _), some (.ref _)], [], _)) rfl (u_ rfl) ?_
            refine w_t (pc := 7) (e_s := (3, 1, 0, 0, 0, .null, [])) (y_s := (8, [some (.ref _), some (.ref _)], [.ref _], _)) rfl (u_ rfl) ?_
            refine w_t (pc := 8) (e_s := (3, 1, 1, 0, 0, .null, [])) (y_s := (9, [some (.ref _), some (.ref _)], [.ref _, .ref _], _)) rfl (u_ rfl) ?_
            refine wcI (pc := 9) (len_s := 3) rfl rfl (l := [some (.ref _), some (.ref _)]) rfl ?_
            refine w_t (pc := 0) (e_s := (3, 1, 1, 0, 0, .null, [])) (y_s := (1, [some (.ref _), some (.ref _)], [.ref _], _)) rfl (u_ rfl) ?_
            refine w20 (pc := 1) (len_s := 3) rfl ?_
            refine w_t (pc := 4) (e_s := (3, 1, 0, 0, 0, .null, [])) (y_s := (5, [some (.ref _), some (.ref _)], [.ref _, .int _], _)) rfl (u_ rfl) ?_
            refine wcI (pc := 5) (len_s := 3) rfl rfl (l := [some (.ref _)]) rfl ?_
            refine w_t (pc := 0) (e_s := (0, 2, 0, 0, 0, .int 9, [])) (y_s := (2, [some (.ref _)], [.int _], _)) rfl (u_ rfl) ?_
            refine w_t (pc := 2) (e_s := (3, 1, 0, 0, 0, .null, [])) (y_s := (3, [some (.ref _)], [.ref _, .int _], _)) rfl (u_ rfl) ?_
            refine w20 (pc := 3) (len_s := 3) rfl ?_
            refine w_t (pc := 6) (e_s := (0, 2, 0, 0, 0, .int 11, [])) (y_s := (8, [some (.ref _)], [.int _, .int _, .int _], _)) rfl (u_ rfl) ?_
            refine w8 (pc := 8) (len_s := 1) rfl ?_
            refine w_t (pc := 9) (e_s := (7, 1, 0, 1, 0, .null, [])) (y_s := (10, [some (.ref _)], [.int (_ - _)], _)) rfl (u_ rfl) ?_
            refine wrI (pc := 10) (len_s := 1) rfl hk ?_
            show wF _ 39 (8, [some (.ref _), some (.ref _)], [.int _, .int _], _) _
            refine wi4 (pc := 8) (len_s := 3) rfl rfl rfl (fun c8_s => ?_) (fun c8_s => ?_)
            · replace t_s := t_s.1 c8_s
              refine w_t (pc := 15) (e_s := (0, 1, 0, 0, 0, .int 0, [])) (y_s := (16, [some (.ref _), some (.ref _)], [.int _], _)) rfl (u_ rfl) ?_
              refine wrI (pc := 16) (len_s := 1) rfl hk ?_
              show wF _ 40 (12, [some (.ref _), some (.ref _)], [.int _], _) _
              refine w_t (pc := 12) (e_s := (15, 3, 19, 0, 0, .null, [])) (y_s := (19, [some (.ref _), some (.ref _)], [], _)) rfl (u_ rfl) ?_
              refine w_t (pc := 19) (e_s := (0, 1, 0, 0, 0, .int 0, [])) (y_s := (20, [some (.ref _), some (.ref _)], [.int _], _)) rfl (u_ rfl) ?_
              refine wrI (pc := 20) (len_s := 1) rfl hk ?_
              show wF _ 118 (51, [some (.ref _), some (.int _), some (.int _), some (.ref _), some (.ref _), none], [.int _], _) _
              refine w_t (pc := 51) (e_s := (15, 3, 57, 1, 0, .null, [])) (y_s := (54, [some (.ref _), some (.int _), some (.int _), some (.ref _), some (.ref _), none], [], _)) rfl (u_ rfl) ?_
              refine w_t (pc := 54) (e_s := (0, 2, 0, 0, 0, .int (-5), [])) (y_s := (56, [some (.ref _), some (.int _), some (.int _), some (.ref _), some (.ref _), none], [.int _], _)) rfl (u_ rfl) ?_
              exact wrI (pc := 56) (len_s := 1) rfl hk t_s
            · replace t_s := t_s.2 c8_s
              refine w_t (pc := 11) (e_s := (0, 1, 0, 0, 0, .int 1, [])) (y_s := (12, [some (.ref _), some (.ref _)], [.int _], _)) rfl (u_ rfl) ?_
              refine w_t (pc := 12) (e_s := (17, 3, 16, 0, 0, .null, [])) (y_s := (16, [some (.ref _), some (.ref _)], [.int _], _)) rfl (u_ rfl) ?_
              refine wrI (pc := 16) (len_s := 1) rfl hk ?_
              show wF _ 40 (12, [some (.ref _), some (.ref _)], [.int _], _) _
              refine w_t (pc := 12) (e_s := (15, 3, 19, 0, 0, .null, [])) (y_s := (15, [some (.ref _), some (.ref _)], [], _)) rfl (u_ rfl) ?_
              refine w_t (pc := 15) (e_s := (0, 1, 0, 0, 0, .int 1, [])) (y_s := (16, [some (.ref _), some (.ref _)], [.int _], _)) rfl (u_ rfl) ?_
              refine w_t (pc := 16) (e_s := (17, 3, 20, 0, 0, .null, [])) (y_s := (20, [some (.ref _), some (.ref _)], [.int _], _)) rfl (u_ rfl) ?_
              refine wrI (pc := 20) (len_s := 1) rfl hk ?_
              show wF _ 118 (51, [some (.ref _), some (.int _), some (.int _), some (.ref _), some (.ref _), none], [.int _], _) _
              refine w_t (pc := 51) (e_s := (15, 3, 57, 1, 0, .null, [])) (y_s := (57, [some (.ref _), some (.int _), some (.int _), some (.ref _), some (.ref _), none], [], _)) rfl (u_ rfl) ?_
              refine w_t (pc := 57) (e_s := (3, 1, 0, 0, 0, .null, [])) (y_s := (58, [some (.ref _), some (.int _), some (.int _), some (.ref _), some (.ref _), none], [.ref _], _)) rfl (u_ rfl) ?_
              refine w20r (pc := 58) (len_s := 3) (q_s := 7) rfl (krq hk rfl) ?_
              refine w_t (pc := 61) (e_s := (3, 1, 3, 0, 0, .null, [])) (y_s := (62, [some (.ref _), some (.int _), some (.int _), some (.ref _), some (.ref _), none], [.ref _, .ref _], _)) rfl (u_ rfl) ?_
              refine w_t (pc := 62) (e_s := (3, 2, 4, 0, 0, .null, [])) (y_s := (64, [some (.ref _), some (.int _), some (.int _), some (.ref _), some (.ref _), none], [.ref _, .ref _, .ref _], _)) rfl (u_ rfl) ?_
              refine wcI (pc := 64) (len_s := 3) rfl rfl (l := [some (.ref _), some (.ref _), some (.ref _), none, none]) rfl (wmI t_s (fun v9 h9 hk t_s => ?_))
              replace t_s := t_s hk
              refine w_t (pc := 67) (e_s := (4, 2, 5, 0, 0, .null, [])) (y_s := (69, [some (.ref _), some (.int _), some (.int _), some (.ref _), some (.ref _), some (.int _)], [], _)) rfl (u_ rfl) ?_
              refine w_t (pc := 69) (e_s := (3, 1, 0, 0, 0, .null, [])) (y_s := (70, [some (.ref _), some (.int _), some (.int _), some (.ref _), some (.ref _), some (.int _)], [.ref _], _)) rfl (u_ rfl) ?_
              refine w20r (pc := 70) (len_s := 3) (q_s := 73) rfl (krq hk rfl) ?_
              refine w_t (pc := 73) (e_s := (0, 1, 0, 0, 0, .int 3, [])) (y_s := (74, [some (.ref _), some (.int _), some (.int _), some (.ref _), some (.ref _), some (.int _)], [.int _, .ref _], _)) rfl (u_ rfl) ?_
              refine w_t (pc := 74) (e_s := (41, 1, 0, 0, 0, .null, [])) (y_s := (75, [some (.ref _), some (.int _), some (.int _), some (.ref _), some (.ref _), some (.int _)], [.int _, .ref _, .int _, .ref _], _)) rfl (u_ rfl) ?_
              refine w22 (pc := 75) (len_s := 1) rfl (hk.1 73 0 5 rfl rfl) (fun c10_s => ?_)
              refine w_t (pc := 76) (e_s := (1, 2, 5, 0, 0, .null, [])) (y_s := (78, [some (.ref _), some (.int _), some (.int _), some (.ref _), some (.ref _), some (.int _)], [.int _, .int _, .int _, .ref _], _)) rfl (u_ rfl) ?_
              refine w_t (pc := 78) (e_s := (7, 1, 0, 0, 0, .null, [])) (y_s := (79, [some (.ref _), some (.int _), some (.int _), some (.ref _), some (.ref _), some (.int _)], [.int (_ + _), .int _, .ref _], _)) rfl (u_ rfl) ?_
              refine w25 (pc := 79) (len_s := 1) rfl (hk.1 73 0 5 rfl rfl) (fun c11_s => ?_)
              refine w_t (pc := 80) (e_s := (1, 2, 5, 0, 0, .null, [])) (y_s := (82, [some (.ref _), some (.int _), some (.int _), some (.ref _), some (.ref _), some (.int _)], [.int _], _)) rfl (u_ rfl) ?_
              refine w_t (pc := 82) (e_s := (3, 2, 4, 0, 0, .null, [])) (y_s := (84, [some (.ref _), some (.int _), some (.int _), some (.ref _), some (.ref _), some (.int _)], [.ref _, .int _], _)) rfl (u_ rfl) ?_
              refine w20 (pc := 84) (len_s := 3) rfl ?_
              refine wi1 (pc := 87) (len_s := 3) rfl rfl rfl (fun c12_s => ?_) (fun c12_s => ?_)
              · replace t_s := t_s.1 c12_s
                refine w_t (pc := 90) (e_s := (3, 1, 0, 0, 0, .null, [])) (y_s := (91, [some (.ref _), some (.int _), some (.int _), some (.ref _), some (.ref _), some (.int _)], [.ref _], _)) rfl (u_ rfl) ?_
                refine w20r (pc := 91) (len_s := 3) (q_s := 73) rfl (krq hk rfl) ?_
                refine w_t (pc := 94) (e_s := (0, 1, 0, 0, 0, .int 2, [])) (y_s := (95, [some (.ref _), some (.int _), some (.int _), some (.ref _), some (.ref _), some (.int _)], [.int _, .ref _], _)) rfl (u_ rfl) ?_
                refine w_t (pc := 95) (e_s := (41, 1, 0, 0, 0, .null, [])) (y_s := (96, [some (.ref _), some (.int _), some (.int _), some (.ref _), some (.ref _), some (.int _)], [.int _, .ref _, .int _, .ref _], _)) rfl (u_ rfl) ?_
                refine w22 (pc := 96) (len_s := 1) rfl (hk.1 73 0 5 rfl rfl) (fun c13_s => ?_)
                refine w_t (pc := 97) (e_s := (0, 1, 0, 0, 0, .int 1, [])) (y_s := (98, [some (.ref _), some (.int _), some (.int _), some (.ref _), some (.ref _), some (.int _)], [.int _, .int _, .int _, .ref _], _)) rfl (u_ rfl) ?_
                refine w_t (pc := 98) (e_s := (7, 1, 0, 0, 0, .null, [])) (y_s := (99, [some (.ref _), some (.int _), some (.int _), some (.ref _), some (.ref _), some (.int _)], [.int (_ + _), .int _, .ref _], _)) rfl (u_ rfl) ?_
                refine w25 (pc := 99) (len_s := 1) rfl (hk.1 73 0 5 rfl rfl) (fun c14_s => ?_)
                refine w_t (pc := 100) (e_s := (3, 1, 3, 0, 0, .null, [])) (y_s := (101, [some (.ref _), some (.int _), some (.int _), some (.ref _), some (.ref _), some (.int _)], [.ref _], _)) rfl (u_ rfl) ?_
                refine wcI (pc := 101) (len_s := 3) rfl rfl (l := [some (.ref _)]) rfl ?_
                refine w_t (pc := 0) (e_s := (3, 1, 0, 0, 0, .null, [])) (y_s := (1, [some (.ref _)], [.ref _], _)) rfl (u_ rfl) ?_
                refine w20 (pc := 1) (len_s := 3) rfl ?_
                refine w_t (pc := 4) (e_s := (0, 2, 0, 0, 0, .int 99, [])) (y_s := (6, [some (.ref _)], [.int _, .int _], _)) rfl (u_ rfl) ?_
                refine wi2 (pc := 6) (len_s := 3) (Y := 99) rfl rfl (by decide) (fun c15_s => ?_) (fun c15_s => ?_)
                · replace t_s := t_s.1 c15_s
                  refine w_t (pc := 13) (e_s := (0, 1, 0, 0, 0, .int 0, [])) (y_s := (14, [some (.ref _)], [.int _], _)) rfl (u_ rfl) ?_
                  refine wrI (pc := 14) (len_s := 1) rfl hk ?_
                  show wF _ 118 (104, [some (.ref _), some (.int _), some (.int _), some (.ref _), some (.ref _), some (.int _)], [.int _], _) _
                  refine w_t (pc := 104) (e_s := (15, 3, 117, 0, 0, .null, [])) (y_s := (117, [some (.ref _), some (.int _), some (.int _), some (.ref _), some (.ref _), some (.int _)], [], _)) rfl (u_ rfl) ?_
                  refine w_t (pc := 117) (e_s := (1, 2, 5, 0, 0, .null, [])) (y_s := (119, [some (.ref _), some (.int _), some (.int _), some (.ref _), some (.ref _), some (.int _)], [.int _], _)) rfl (u_ rfl) ?_
                  exact wrI (pc := 119) (len_s := 1) rfl hk t_s
                · replace t_s := t_s.2 c15_s
                  refine w_t (pc := 9) (e_s := (0, 1, 0, 0, 0, .int 1, [])) (y_s := (10, [some (.ref _)], [.int _], _)) rfl (u_ rfl) ?_
                  refine w_t (pc := 10) (e_s := (17, 3, 14, 0, 0, .null, [])) (y_s := (14, [some (.ref _)], [.int _], _)) rfl (u_ rfl) ?_
                  refine wrI (pc := 14) (len_s := 1) rfl hk ?_
                  show wF _ 118 (104, [some (.ref _), some (.int _), some (.int _), some (.ref _), some (.ref _), some (.int _)], [.int _], _) _
                  refine w_t (pc := 104) (e_s := (15, 3, 117, 0, 0, .null, [])) (y_s := (107, [some (.ref _), some (.int _), some (.int _), some (.ref _), some (.ref _), some (.int _)], [], _)) rfl (u_ rfl) ?_
                  refine w_t (pc := 107) (e_s := (3, 1, 0, 0, 0, .null, [])) (y_s := (108, [some (.ref _), some (.int _), some (.int _), some (.ref _), some (.ref _), some (.int _)], [.ref _], _)) rfl (u_ rfl) ?_
                  refine w20r (pc := 108) (len_s := 3) (q_s := 73) rfl (krq hk rfl) ?_
                  refine w_t (pc := 111) (e_s := (0, 1, 0, 0, 0, .int 4, [])) (y_s := (112, [some (.ref _), some (.int _), some (.int _), some (.ref _), some (.ref _), some (.int _)], [.int _, .ref _], _)) rfl (u_ rfl) ?_
                  refine w_t (pc := 112) (e_s := (41, 1, 0, 0, 0, .null, [])) (y_s := (113, [some (.ref _), some (.int _), some (.int _), some (.ref _), some (.ref _), some (.int _)], [.int _, .ref _, .int _, .ref _], _)) rfl (u_ rfl) ?_
                  refine w22 (pc := 113) (len_s := 1) rfl (hk.1 73 0 5 rfl rfl) (fun c16 => ?_)
                  refine w_t (pc := 114) (e_s := (0, 1, 0, 0, 0, .int 1, [])) (y_s := (115, [some (.ref _), some (.int _), some (.int _), some (.ref _), some (.ref _), some (.int _)], [.int _, .int _, .int _, .ref _], _)) rfl (u_ rfl) ?_
                  refine w_t (pc := 115) (e_s := (7, 1, 0, 0, 0, .null, [])) (y_s := (116, [some (.ref _), some (.int _), some (.int _), some (.ref _), some (.ref _), some (.int _)], [.int (_ + _), .int _, .ref _], _)) rfl (u_ rfl) ?_
                  refine w25 (pc := 116) (len_s := 1) rfl (hk.1 73 0 5 rfl rfl) (fun c17 => ?_)
                  refine w_t (pc := 117) (e_s := (1, 2, 5, 0, 0, .null, [])) (y_s := (119, [some (.ref _), some (.int _), some (.int _), some (.ref _), some (.ref _), some (.int _)], [.int _], _)) rfl (u_ rfl) ?_
                  exact wrI (pc := 119) (len_s := 1) rfl hk t_s
              · replace t_s := t_s.2 c12_s
                refine w_t (pc := 100) (e_s := (3, 1, 3, 0, 0, .null, [])) (y_s := (101, [some (.ref _), some (.int _), some (.int _), some (.ref _), some (.ref _), some (.int _)], [.ref _], _)) rfl (u_ rfl) ?_
                refine wcI (pc := 101) (len_s := 3) rfl rfl (l := [some (.ref _)]) rfl ?_
                refine w_t (pc := 0) (e_s := (3, 1, 0, 0, 0, .null, [])) (y_s := (1, [some (.ref _)], [.ref _], _)) rfl (u_ rfl) ?_
                refine w20 (pc := 1) (len_s := 3) rfl ?_
                refine w_t (pc := 4) (e_s := (0, 2, 0, 0, 0, .int 99, [])) (y_s := (6, [some (.ref _)], [.int _, .int _], _)) rfl (u_ rfl) ?_
                refine wi2 (pc := 6) (len_s := 3) (Y := 99) rfl rfl (by decide) (fun c18_s => ?_) (fun c18_s => ?_)
                · replace t_s := t_s.1 c18_s
                  refine w_t (pc := 13) (e_s := (0, 1, 0, 0, 0, .int 0, [])) (y_s := (14, [some (.ref _)], [.int _], _)) rfl (u_ rfl) ?_
                  refine wrI (pc := 14) (len_s := 1) rfl hk ?_
                  show wF _ 118 (104, [some (.ref _), some (.int _), some (.int _), some (.ref _), some (.ref _), some (.int _)], [.int _], _) _
                  refine w_t (pc := 104) (e_s := (15, 3, 117, 0, 0, .null, [])) (y_s := (117, [some (.ref _), some (.int _), some (.int _), some (.ref _), some (.ref _), some (.int _)], [], _)) rfl (u_ rfl) ?_
                  refine w_t (pc := 117) (e_s := (1, 2, 5, 0, 0, .null, [])) (y_s := (119, [some (.ref _), some (.int _), some (.int _), some (.ref _), some (.ref _), some (.int _)], [.int _], _)) rfl (u_ rfl) ?_
                  exact wrI (pc := 119) (len_s := 1) rfl hk t_s
                · replace t_s := t_s.2 c18_s
                  refine w_t (pc := 9) (e_s := (0, 1, 0, 0, 0, .int 1, [])) (y_s := (10, [some (.ref _)], [.int _], _)) rfl (u_ rfl) ?_
                  refine w_t (pc := 10) (e_s := (17, 3, 14, 0, 0, .null, [])) (y_s := (14, [some (.ref _)], [.int _], _)) rfl (u_ rfl) ?_
                  refine wrI (pc := 14) (len_s := 1) rfl hk ?_
                  show wF _ 118 (104, [some (.ref _), some (.int _), some (.int _), some (.ref _), some (.ref _), some (.int _)], [.int _], _) _
                  refine w_t (pc := 104) (e_s := (15, 3, 117, 0, 0, .null, [])) (y_s := (107, [some (.ref _), some (.int _), some (.int _), some (.ref _), some (.ref _), some (.int _)], [], _)) rfl (u_ rfl) ?_
                  refine w_t (pc := 107) (e_s := (3, 1, 0, 0, 0, .null, [])) (y_s := (108, [some (.ref _), some (.int _), some (.int _), some (.ref _), some (.ref _), some (.int _)], [.ref _], _)) rfl (u_ rfl) ?_
                  refine w20r (pc := 108) (len_s := 3) (q_s := 73) rfl (krq hk rfl) ?_
                  refine w_t (pc := 111) (e_s := (0, 1, 0, 0, 0, .int 4, [])) (y_s := (112, [some (.ref _), some (.int _), some (.int _), some (.ref _), some (.ref _), some (.int _)], [.int _, .ref _], _)) rfl (u_ rfl) ?_
                  refine w_t (pc := 112) (e_s := (41, 1, 0, 0, 0, .null, [])) (y_s := (113, [some (.ref _), some (.int _), some (.int _), some (.ref _), some (.ref _), some (.int _)], [.int _, .ref _, .int _, .ref _], _)) rfl (u_ rfl) ?_
                  refine w22 (pc := 113) (len_s := 1) rfl (hk.1 73 0 5 rfl rfl) (fun c19_s => ?_)
                  refine w_t (pc := 114) (e_s := (0, 1, 0, 0, 0, .int 1, [])) (y_s := (115, [some (.ref _), some (.int _), some (.int _), some (.ref _), some (.ref _), some (.int _)], [.int _, .int _, .int _, .ref _], _)) rfl (u_ rfl) ?_
                  refine w_t (pc := 115) (e_s := (7, 1, 0, 0, 0, .null, [])) (y_s := (116, [some (.ref _), some (.int _), some (.int _), some (.ref _), some (.ref _), some (.int _)], [.int (_ + _), .int _, .ref _], _)) rfl (u_ rfl) ?_
                  refine w25 (pc := 116) (len_s := 1) rfl (hk.1 73 0 5 rfl rfl) (fun c20_s => ?_)
                  refine w_t (pc := 117) (e_s := (1, 2, 5, 0, 0, .null, [])) (y_s := (119, [some (.ref _), some (.int _), some (.int _), some (.ref _), some (.ref _), some (.int _)], [.int _], _)) rfl (u_ rfl) ?_
                  exact wrI (pc := 119) (len_s := 1) rfl hk t_s
          · replace t_s := t_s.2 c7_s
            refine w_t (pc := 9) (e_s := (0, 1, 0, 0, 0, .int 1, [])) (y_s := (10, [some (.ref _)], [.int _], _)) rfl (u_ rfl) ?_
            refine w_t (pc := 10) (e_s := (17, 3, 14, 0, 0, .null, [])) (y_s := (14, [some (.ref _)], [.int _], _)) rfl (u_ rfl) ?_
            refine wrI (pc := 14) (len_s := 1) rfl hk ?_
            show wF _ 40 (4, [some (.ref _), some (.ref _)], [.int _], _) _
            refine w_t (pc := 4) (e_s := (15, 3, 19, 1, 0, .null, [])) (y_s := (19, [some (.ref _), some (.ref _)], [], _)) rfl (u_ rfl) ?_
            refine w_t (pc := 19) (e_s := (0, 1, 0, 0, 0, .int 0, [])) (y_s := (20, [some (.ref _), some (.ref _)], [.int _], _)) rfl (u_ rfl) ?_
            refine wrI (pc := 20) (len_s := 1) rfl hk ?_
            show wF _ 118 (51, [some (.ref _), some (.int _), some (.int _), some (.ref _), some (.ref _), none], [.int _], _) _
            refine w_t (pc := 51) (e_s := (15, 3, 57, 1, 0, .null, [])) (y_s := (54, [some (.ref _), some (.int _), some (.int _), some (.ref _), some (.ref _), none], [], _)) rfl (u_ rfl) ?_
            refine w_t (pc := 54) (e_s := (0, 2, 0, 0, 0, .int (-5), [])) (y_s := (56, [some (.ref _), some (.int _), some (.int _), some (.ref _), some (.ref _), none], [.int _], _)) rfl (u_ rfl) ?_
            exact wrI (pc := 56) (len_s := 1) rfl hk t_s
        · replace t_s := t_s.2 c4_s
          refine w_t (pc := 16) (e_s := (0, 1, 0, 0, 0, .int 0, [])) (y_s := (17, [some (.ref _), some (.int _)], [.int _], _)) rfl (u_ rfl) ?_
          refine wrI (pc := 17) (len_s := 1) rfl hk ?_
          show wF _ 118 (19, [some (.ref _), some (.int _), some (.int _), none, none, none], [.int _], _) _
          refine w_t (pc := 19) (e_s := (15, 3, 24, 1, 0, .null, [])) (y_s := (22, [some (.ref _), some (.int _), some (.int _), none, none, none], [], _)) rfl (u_ rfl) ?_
          refine w_t (pc := 22) (e_s := (0, 1, 0, 0, 0, .int (-1), [])) (y_s := (23, [some (.ref _), some (.int _), some (.int _), none, none, none], [.int _], _)) rfl (u_ rfl) ?_
          exact wrI (pc := 23) (len_s := 1) rfl hk t_s
    · replace t_s := t_s.2 c2_s
      refine w_t (pc := 16) (e_s := (0, 1, 0, 0, 0, .int 0, [])) (y_s := (17, [some (.ref _), some (.int _)], [.int _], _)) rfl (u_ rfl) ?_
      refine wrI (pc := 17) (len_s := 1) rfl hk ?_
      show wF _ 118 (8, [some (.ref _), some (.int _), some (.int _), none, none, none], [.int _], _) _
      refine w_t (pc := 8) (e_s := (15, 3, 22, 0, 0, .null, [])) (y_s := (22, [some (.ref _), some (.int _), some (.int _), none, none, none], [], _)) rfl (u_ rfl) ?_
      refine w_t (pc := 22) (e_s := (0, 1, 0, 0, 0, .int (-1), [])) (y_s := (23, [some (.ref _), some (.int _), some (.int _), none, none, none], [.int _], _)) rfl (u_ rfl) ?_
      exact wrI (pc := 23) (len_s := 1) rfl hk t_s
/-- ColdShodModel.keepsOwn(I)V, from 0 on -/
theorem sg_210_0 {F_s : Nat} {x1_s : Int32} {h_s : zH} {K_s : zH → Prop} (hk : hKn h_s) (t_s : wF F_s 210 (2, [some (.ref 102), some (.int x1_s), some (.int 0)], [], h_s) (gV K_s)) : wF (F_s + 1) 210 (0, [some (.ref 102), some (.int x1_s), none], [], h_s) (gV K_s) := by
  refine w_0 (pc := 0) (e_s := (0, 1, 0, 0, 0, .int 0, [])) (y_s := (1, [some (.ref _), some (.int _), none], [.int _], _)) rfl (u_ rfl) ?_
  refine w_t (pc := 1) (e_s := (4, 1, 2, 0, 0, .null, [])) (y_s := (2, [some (.ref _), some (.int _), some (.int _)], [], _)) rfl (u_ rfl) ?_
  exact t_s
/-- ColdShodModel.keepsOwn(I)V, from 2 on -/
theorem sg_210_2 {F_s : Nat} {x1_s x2_s : Int32} {h_s : zH} {K_s : zH → Prop} (hk : hKn h_s) (t_s : (x2_s.toInt < 6 → (zix x2_s < 7 → (zix ((12 + (8 * x2_s)) + x1_s) < 104 → wF F_s 210 (2, [some (.ref 102), some (.int x1_s), some (.int (x2_s + 1))], [], (h_s.1, zup h_s.2.1 103 (zix ((12 + (8 * x2_s)) + x1_s)) (h_s.2.1 112 (zix x2_s)), h_s.2.2.1, h_s.2.2.2)) (gV K_s)))) ∧ (¬ x2_s.toInt < 6 → K_s h_s)) : wF (F_s + 1) 210 (2, [some (.ref 102), some (.int x1_s), some (.int x2_s)], [], h_s) (gV K_s) := by
  refine w_0 (pc := 2) (e_s := (1, 1, 2, 0, 0, .null, [])) (y_s := (3, [some (.ref _), some (.int _), some (.int _)], [.int _], _)) rfl (u_ rfl) ?_
  refine w_t (pc := 3) (e_s := (0, 2, 0, 0, 0, .int 6, [])) (y_s := (5, [some (.ref _), some (.int _), some (.int _)], [.int _, .int _], _)) rfl (u_ rfl) ?_
  refine wi3 (pc := 5) (len_s := 3) (Y := 6) rfl rfl (by decide) (fun c1_s => ?_) (fun c1_s => ?_)
  · replace t_s := t_s.1 c1_s
    refine w_t (pc := 8) (e_s := (3, 1, 0, 0, 0, .null, [])) (y_s := (9, [some (.ref _), some (.int _), some (.int _)], [.ref _], _)) rfl (u_ rfl) ?_
    refine w20r (pc := 9) (len_s := 3) (q_s := 103) rfl (krq hk rfl) ?_
    refine w_t (pc := 12) (e_s := (0, 2, 0, 0, 0, .int 12, [])) (y_s := (14, [some (.ref _), some (.int _), some (.int _)], [.int _, .ref _], _)) rfl (u_ rfl) ?_
    refine w_t (pc := 14) (e_s := (0, 2, 0, 0, 0, .int 8, [])) (y_s := (16, [some (.ref _), some (.int _), some (.int _)], [.int _, .int _, .ref _], _)) rfl (u_ rfl) ?_
    refine w_t (pc := 16) (e_s := (1, 1, 2, 0, 0, .null, [])) (y_s := (17, [some (.ref _), some (.int _), some (.int _)], [.int _, .int _, .int _, .ref _], _)) rfl (u_ rfl) ?_
    refine w_t (pc := 17) (e_s := (7, 1, 0, 2, 0, .null, [])) (y_s := (18, [some (.ref _), some (.int _), some (.int _)], [.int (_ * _), .int _, .ref _], _)) rfl (u_ rfl) ?_
    refine w_t (pc := 18) (e_s := (7, 1, 0, 0, 0, .null, [])) (y_s := (19, [some (.ref _), some (.int _), some (.int _)], [.int (_ + _), .ref _], _)) rfl (u_ rfl) ?_
    refine w_t (pc := 19) (e_s := (1, 1, 1, 0, 0, .null, [])) (y_s := (20, [some (.ref _), some (.int _), some (.int _)], [.int _, .int _, .ref _], _)) rfl (u_ rfl) ?_
    refine w_t (pc := 20) (e_s := (7, 1, 0, 0, 0, .null, [])) (y_s := (21, [some (.ref _), some (.int _), some (.int _)], [.int (_ + _), .ref _], _)) rfl (u_ rfl) ?_
    refine w_t (pc := 21) (e_s := (3, 1, 0, 0, 0, .null, [])) (y_s := (22, [some (.ref _), some (.int _), some (.int _)], [.ref _, .int _, .ref _], _)) rfl (u_ rfl) ?_
    refine w20r (pc := 22) (len_s := 3) (q_s := 112) rfl (krq hk rfl) ?_
    refine w_t (pc := 25) (e_s := (1, 1, 2, 0, 0, .null, [])) (y_s := (26, [some (.ref _), some (.int _), some (.int _)], [.int _, .ref _, .int _, .ref _], _)) rfl (u_ rfl) ?_
    refine w22 (pc := 26) (len_s := 1) rfl (hk.1 112 0 7 rfl rfl) (fun c2_s => ?_)
    replace t_s := t_s c2_s
    refine w25 (pc := 27) (len_s := 1) rfl (hk.1 103 0 104 rfl rfl) (fun c3_s => ?_)
    replace t_s := t_s c3_s
    refine w_t (pc := 28) (e_s := (19, 3, 2, 0, 0, .int 1, [])) (y_s := (31, [some (.ref _), some (.int _), some (.int _)], [], _)) rfl (u_ rfl) ?_
    refine w_t (pc := 31) (e_s := (17, 3, 2, 0, 0, .null, [])) (y_s := (2, [some (.ref _), some (.int _), some (.int _)], [], _)) rfl (u_ rfl) ?_
    exact t_s
  · replace t_s := t_s.2 c1_s
    exact wrV (pc := 34) (len_s := 1) rfl hk t_s
/-- ColdShodModel.goes(II)I, from 0 on -/
theorem sg_212_0 {F_s : Nat} {x1_s : Int32} {x2_s : Int32} {h_s : zH} {K_s : Int32 → zH → Prop} (hk : hKn h_s) (t_s : (x1_s.toInt < 0 → K_s (-1) h_s) ∧ (¬ x1_s.toInt < 0 → ((((h_s.2.1 102 7) - 1).toInt < x1_s.toInt → K_s (-1) h_s) ∧ (¬ ((h_s.2.1 102 7) - 1).toInt < x1_s.toInt → ((x2_s.toInt < 0 → K_s (-1) h_s) ∧ (¬ x2_s.toInt < 0 → ((((h_s.2.1 102 8) - 1).toInt < x2_s.toInt → K_s (-1) h_s) ∧ (¬ ((h_s.2.1 102 8) - 1).toInt < x2_s.toInt → wF F_s 178 (0, [some (.ref 102), some (.int x1_s), none], [], h_s) (gV (fun h5 => hKn h5 → ((h5.2.1 112 2).toInt < 99 → (zix (80 + x2_s) < 104 → ((9 - ((h5.2.1 112 2) / 11)).toInt < (h5.2.1 103 (zix (80 + x2_s))).toInt → K_s (-5) h5) ∧ (¬ (9 - ((h5.2.1 112 2) / 11)).toInt < (h5.2.1 103 (zix (80 + x2_s))).toInt → wF F_s 183 (0, [some (.ref 102), some (.int x2_s), none], [], h5) (gV (fun h11 => hKn h11 → wF F_s 210 (0, [some (.ref 102), some (.int x1_s), none], [], h11) (gV (fun h12 => hKn h12 → ((h12.2.1 102 23).toInt = 0 → (((h12.2.1 112 2).toInt = 99 → K_s (h12.2.1 102 22) (h12.1, zup (zup (zup h12.2.1 119 2 ((h12.2.1 119 2) + 0)) 119 3 ((h12.2.1 119 3) + (h12.2.1 102 22))) 119 4 ((h12.2.1 119 4) + 1), h12.2.2.1, h12.2.2.2)) ∧ (¬ (h12.2.1 112 2).toInt = 99 → K_s (h12.2.1 102 22) (h12.1, zup (zup (zup h12.2.1 119 2 ((h12.2.1 119 2) + 0)) 119 3 ((h12.2.1 119 3) + (h12.2.1 102 22))) 119 4 ((h12.2.1 119 4) + 0), h12.2.2.1, h12.2.2.2)))) ∧ (¬ (h12.2.1 102 23).toInt = 0 → (((h12.2.1 112 2).toInt = 99 → K_s (h12.2.1 102 22) (h12.1, zup (zup (zup h12.2.1 119 2 ((h12.2.1 119 2) + 1)) 119 3 ((h12.2.1 119 3) + (h12.2.1 102 22))) 119 4 ((h12.2.1 119 4) + 1), h12.2.2.1, h12.2.2.2)) ∧ (¬ (h12.2.1 112 2).toInt = 99 → K_s (h12.2.1 102 22) (h12.1, zup (zup (zup h12.2.1 119 2 ((h12.2.1 119 2) + 1)) 119 3 ((h12.2.1 119 3) + (h12.2.1 102 22))) 119 4 ((h12.2.1 119 4) + 0), h12.2.2.1, h12.2.2.2))))))))))) ∧ (¬ (h5.2.1 112 2).toInt < 99 → K_s (-5) h5))))))))))) : wF (F_s + 1) 212 (0, [some (.ref 102), some (.int x1_s), some (.int x2_s)], [], h_s) (gI K_s) := by
  refine w_0 (pc := 0) (e_s := (3, 1, 0, 0, 0, .null, [])) (y_s := (1, [some (.ref _), some (.int _), some (.int _)], [.ref _], _)) rfl (u_ rfl) ?_
  refine w_t (pc := 1) (e_s := (1, 1, 1, 0, 0, .null, [])) (y_s := (2, [some (.ref _), some (.int _), some (.int _)], [.int _, .ref _], _)) rfl (u_ rfl) ?_
  refine w_t (pc := 2) (e_s := (10, 1, 0, 0, 0, .null, [])) (y_s := (3, [some (.ref _), some (.int _), some (.int _)], [.long (Int32.toInt64 _), .ref _], _)) rfl (u_ rfl) ?_
  refine wcI (pc := 3) (len_s := 3) rfl rfl (l := [some (.ref _), some (.long _), none]) rfl ?_
  refine w_t (pc := 0) (e_s := (2, 1, 1, 0, 0, .null, [])) (y_s := (1, [some (.ref _), some (.long _), none], [.long _], _)) rfl (u_ rfl) ?_
  refine w_t (pc := 1) (e_s := (0, 1, 0, 0, 0, .long 0, [])) (y_s := (2, [some (.ref _), some (.long _), none], [.long _, .long _], _)) rfl (u_ rfl) ?_
  refine w_t (pc := 2) (e_s := (3, 1, 0, 0, 0, .null, [])) (y_s := (3, [some (.ref _), some (.long _), none], [.ref _, .long _, .long _], _)) rfl (u_ rfl) ?_
  refine w20 (pc := 3) (len_s := 3) rfl ?_
  refine w_t (pc := 6) (e_s := (0, 1, 0, 0, 0, .int 1, [])) (y_s := (7, [some (.ref _), some (.long _), none], [.int _, .int _, .long _, .long _], _)) rfl (u_ rfl) ?_
  refine w_t (pc := 7) (e_s := (7, 1, 0, 1, 0, .null, [])) (y_s := (8, [some (.ref _), some (.long _), none], [.int (_ - _), .long _, .long _], _)) rfl (u_ rfl) ?_
  refine w_t (pc := 8) (e_s := (10, 1, 0, 0, 0, .null, [])) (y_s := (9, [some (.ref _), some (.long _), none], [.long (Int32.toInt64 _), .long _, .long _], _)) rfl (u_ rfl) ?_
  refine wcI (pc := 9) (len_s := 3) rfl rfl (l := [some (.long _), none, some (.long _), none, some (.long _), none]) rfl ?_
  refine w_t (pc := 0) (e_s := (2, 1, 0, 0, 0, .null, [])) (y_s := (1, [some (.long _), none, some (.long _), none, some (.long _), none], [.long _], _)) rfl (u_ rfl) ?_
  refine w_t (pc := 1) (e_s := (2, 1, 2, 0, 0, .null, [])) (y_s := (2, [some (.long _), none, some (.long _), none, some (.long _), none], [.long _, .long _], _)) rfl (u_ rfl) ?_
  refine w_t (pc := 2) (e_s := (14, 1, 0, 0, 0, .null, [])) (y_s := (3, [some (.long _), none, some (.long _), none, some (.long _), none], [.int (lg_cmp _ _)], _)) rfl (u_ rfl) ?_
  refine wl2 (pc := 3) (len_s := 3) (Y := 0) rfl (Int32.toInt_toInt64 _) (by decide) (fun c1_s => ?_) (fun c1_s => ?_)
  · replace t_s := t_s.1 c1_s
    refine w_t (pc := 17) (e_s := (0, 1, 0, 0, 0, .int 0, [])) (y_s := (18, [some (.long _), none, some (.long _), none, some (.long _), none], [.int _], _)) rfl (u_ rfl) ?_
    refine wrI (pc := 18) (len_s := 1) rfl hk ?_
    show wF _ 152 (12, [some (.ref _), some (.long _), none], [.int _], _) _
    refine wrI (pc := 12) (len_s := 1) rfl hk ?_
    show wF _ 212 (6, [some (.ref _), some (.int _), some (.int _)], [.int _], _) _
    refine w_t (pc := 6) (e_s := (15, 3, 18, 0, 0, .null, [])) (y_s := (18, [some (.ref _), some (.int _), some (.int _)], [], _)) rfl (u_ rfl) ?_
    refine w_t (pc := 18) (e_s := (0, 1, 0, 0, 0, .int (-1), [])) (y_s := (19, [some (.ref _), some (.int _), some (.int _)], [.int _], _)) rfl (u_ rfl) ?_
    exact wrI (pc := 19) (len_s := 1) rfl hk t_s
  · replace t_s := t_s.2 c1_s
    refine w_t (pc := 6) (e_s := (2, 1, 0, 0, 0, .null, [])) (y_s := (7, [some (.long _), none, some (.long _), none, some (.long _), none], [.long _], _)) rfl (u_ rfl) ?_
    refine w_t (pc := 7) (e_s := (2, 2, 4, 0, 0, .null, [])) (y_s := (9, [some (.long _), none, some (.long _), none, some (.long _), none], [.long _, .long _], _)) rfl (u_ rfl) ?_
    refine w_t (pc := 9) (e_s := (14, 1, 0, 0, 0, .null, [])) (y_s := (10, [some (.long _), none, some (.long _), none, some (.long _), none], [.int (lg_cmp _ _)], _)) rfl (u_ rfl) ?_
    refine wl4 (pc := 10) (len_s := 3) rfl (Int32.toInt_toInt64 _) (Int32.toInt_toInt64 _) (fun c2_s => ?_) (fun c2_s => ?_)
    · replace t_s := t_s.1 c2_s
      refine w_t (pc := 17) (e_s := (0, 1, 0, 0, 0, .int 0, [])) (y_s := (18, [some (.long _), none, some (.long _), none, some (.long _), none], [.int _], _)) rfl (u_ rfl) ?_
      refine wrI (pc := 18) (len_s := 1) rfl hk ?_
      show wF _ 152 (12, [some (.ref _), some (.long _), none], [.int _], _) _
      refine wrI (pc := 12) (len_s := 1) rfl hk ?_
      show wF _ 212 (6, [some (.ref _), some (.int _), some (.int _)], [.int _], _) _
      refine w_t (pc := 6) (e_s := (15, 3, 18, 0, 0, .null, [])) (y_s := (18, [some (.ref _), some (.int _), some (.int _)], [], _)) rfl (u_ rfl) ?_
      refine w_t (pc := 18) (e_s := (0, 1, 0, 0, 0, .int (-1), [])) (y_s := (19, [some (.ref _), some (.int _), some (.int _)], [.int _], _)) rfl (u_ rfl) ?_
      exact wrI (pc := 19) (len_s := 1) rfl hk t_s
    · replace t_s := t_s.2 c2_s
      refine w_t (pc := 13) (e_s := (0, 1, 0, 0, 0, .int 1, [])) (y_s := (14, [some (.long _), none, some (.long _), none, some (.long _), none], [.int _], _)) rfl (u_ rfl) ?_
      refine w_t (pc := 14) (e_s := (17, 3, 18, 0, 0, .null, [])) (y_s := (18, [some (.long _), none, some (.long _), none, some (.long _), none], [.int _], _)) rfl (u_ rfl) ?_
      refine wrI (pc := 18) (len_s := 1) rfl hk ?_
      show wF _ 152 (12, [some (.ref _), some (.long _), none], [.int _], _) _
      refine wrI (pc := 12) (len_s := 1) rfl hk ?_
      show wF _ 212 (6, [some (.ref _), some (.int _), some (.int _)], [.int _], _) _
      refine w_t (pc := 6) (e_s := (15, 3, 18, 0, 0, .null, [])) (y_s := (9, [some (.ref _), some (.int _), some (.int _)], [], _)) rfl (u_ rfl) ?_
      refine w_t (pc := 9) (e_s := (3, 1, 0, 0, 0, .null, [])) (y_s := (10, [some (.ref _), some (.int _), some (.int _)], [.ref _], _)) rfl (u_ rfl) ?_
      refine w_t (pc := 10) (e_s := (1, 1, 2, 0, 0, .null, [])) (y_s := (11, [some (.ref _), some (.int _), some (.int _)], [.int _, .ref _], _)) rfl (u_ rfl) ?_
      refine w_t (pc := 11) (e_s := (10, 1, 0, 0, 0, .null, [])) (y_s := (12, [some (.ref _), some (.int _), some (.int _)], [.long (Int32.toInt64 _), .ref _], _)) rfl (u_ rfl) ?_
      refine wcI (pc := 12) (len_s := 3) rfl rfl (l := [some (.ref _), some (.long _), none]) rfl ?_
      refine w_t (pc := 0) (e_s := (2, 1, 1, 0, 0, .null, [])) (y_s := (1, [some (.ref _), some (.long _), none], [.long _], _)) rfl (u_ rfl) ?_
      refine w_t (pc := 1) (e_s := (0, 1, 0, 0, 0, .long 0, [])) (y_s := (2, [some (.ref _), some (.long _), none], [.long _, .long _], _)) rfl (u_ rfl) ?_
      refine w_t (pc := 2) (e_s := (3, 1, 0, 0, 0, .null, [])) (y_s := (3, [some (.ref _), some (.long _), none], [.ref _, .long _, .long _], _)) rfl (u_ rfl) ?_
      refine w20 (pc := 3) (len_s := 3) rfl ?_
      refine w_t (pc := 6) (e_s := (0, 1, 0, 0, 0, .int 1, [])) (y_s := (7, [some (.ref _), some (.long _), none], [.int _, .int _, .long _, .long _], _)) rfl (u_ rfl) ?_
      refine w_t (pc := 7) (e_s := (7, 1, 0, 1, 0, .null, [])) (y_s := (8, [some (.ref _), some (.long _), none], [.int (_ - _), .long _, .long _], _)) rfl (u_ rfl) ?_
      refine w_t (pc := 8) (e_s := (10, 1, 0, 0, 0, .null, [])) (y_s := (9, [some (.ref _), some (.long _), none], [.long (Int32.toInt64 _), .long _, .long _], _)) rfl (u_ rfl) ?_
      refine wcI (pc := 9) (len_s := 3) rfl rfl (l := [some (.long _), none, some (.long _), none, some (.long _), none]) rfl ?_
      refine w_t (pc := 0) (e_s := (2, 1, 0, 0, 0, .null, [])) (y_s := (1, [some (.long _), none, some (.long _), none, some (.long _), none], [.long _], _)) rfl (u_ rfl) ?_
      refine w_t (pc := 1) (e_s := (2, 1, 2, 0, 0, .null, [])) (y_s := (2, [some (.long _), none, some (.long _), none, some (.long _), none], [.long _, .long _], _)) rfl (u_ rfl) ?_
      refine w_t (pc := 2) (e_s := (14, 1, 0, 0, 0, .null, [])) (y_s := (3, [some (.long _), none, some (.long _), none, some (.long _), none], [.int (lg_cmp _ _)], _)) rfl (u_ rfl) ?_
      refine wl2 (pc := 3) (len_s := 3) (Y := 0) rfl (Int32.toInt_toInt64 _) (by decide) (fun c3_s => ?_) (fun c3_s => ?_)
      · replace t_s := t_s.1 c3_s
        refine w_t (pc := 17) (e_s := (0, 1, 0, 0, 0, .int 0, [])) (y_s := (18, [some (.long _), none, some (.long _), none, some (.long _), none], [.int _], _)) rfl (u_ rfl) ?_
        refine wrI (pc := 18) (len_s := 1) rfl hk ?_
        show wF _ 153 (12, [some (.ref _), some (.long _), none], [.int _], _) _
        refine wrI (pc := 12) (len_s := 1) rfl hk ?_
        show wF _ 212 (15, [some (.ref _), some (.int _), some (.int _)], [.int _], _) _
        refine w_t (pc := 15) (e_s := (15, 3, 20, 1, 0, .null, [])) (y_s := (18, [some (.ref _), some (.int _), some (.int _)], [], _)) rfl (u_ rfl) ?_
        refine w_t (pc := 18) (e_s := (0, 1, 0, 0, 0, .int (-1), [])) (y_s := (19, [some (.ref _), some (.int _), some (.int _)], [.int _], _)) rfl (u_ rfl) ?_
        exact wrI (pc := 19) (len_s := 1) rfl hk t_s
      · replace t_s := t_s.2 c3_s
        refine w_t (pc := 6) (e_s := (2, 1, 0, 0, 0, .null, [])) (y_s := (7, [some (.long _), none, some (.long _), none, some (.long _), none], [.long _], _)) rfl (u_ rfl) ?_
        refine w_t (pc := 7) (e_s := (2, 2, 4, 0, 0, .null, [])) (y_s := (9, [some (.long _), none, some (.long _), none, some (.long _), none], [.long _, .long _], _)) rfl (u_ rfl) ?_
        refine w_t (pc := 9) (e_s := (14, 1, 0, 0, 0, .null, [])) (y_s := (10, [some (.long _), none, some (.long _), none, some (.long _), none], [.int (lg_cmp _ _)], _)) rfl (u_ rfl) ?_
        refine wl4 (pc := 10) (len_s := 3) rfl (Int32.toInt_toInt64 _) (Int32.toInt_toInt64 _) (fun c4_s => ?_) (fun c4_s => ?_)
        · replace t_s := t_s.1 c4_s
          refine w_t (pc := 17) (e_s := (0, 1, 0, 0, 0, .int 0, [])) (y_s := (18, [some (.long _), none, some (.long _), none, some (.long _), none], [.int _], _)) rfl (u_ rfl) ?_
          refine wrI (pc := 18) (len_s := 1) rfl hk ?_
          show wF _ 153 (12, [some (.ref _), some (.long _), none], [.int _], _) _
          refine wrI (pc := 12) (len_s := 1) rfl hk ?_
          show wF _ 212 (15, [some (.ref _), some (.int _), some (.int _)], [.int _], _) _
          refine w_t (pc := 15) (e_s := (15, 3, 20, 1, 0, .null, [])) (y_s := (18, [some (.ref _), some (.int _), some (.int _)], [], _)) rfl (u_ rfl) ?_
          refine w_t (pc := 18) (e_s := (0, 1, 0, 0, 0, .int (-1), [])) (y_s := (19, [some (.ref _), some (.int _), some (.int _)], [.int _], _)) rfl (u_ rfl) ?_
          exact wrI (pc := 19) (len_s := 1) rfl hk t_s
        · replace t_s := t_s.2 c4_s
          refine w_t (pc := 13) (e_s := (0, 1, 0, 0, 0, .int 1, [])) (y_s := (14, [some (.long _), none, some (.long _), none, some (.long _), none], [.int _], _)) rfl (u_ rfl) ?_
          refine w_t (pc := 14) (e_s := (17, 3, 18, 0, 0, .null, [])) (y_s := (18, [some (.long _), none, some (.long _), none, some (.long _), none], [.int _], _)) rfl (u_ rfl) ?_
          refine wrI (pc := 18) (len_s := 1) rfl hk ?_
          show wF _ 153 (12, [some (.ref _), some (.long _), none], [.int _], _) _
          refine wrI (pc := 12) (len_s := 1) rfl hk ?_
          show wF _ 212 (15, [some (.ref _), some (.int _), some (.int _)], [.int _], _) _
          refine w_t (pc := 15) (e_s := (15, 3, 20, 1, 0, .null, [])) (y_s := (20, [some (.ref _), some (.int _), some (.int _)], [], _)) rfl (u_ rfl) ?_
          refine w_t (pc := 20) (e_s := (3, 1, 0, 0, 0, .null, [])) (y_s := (21, [some (.ref _), some (.int _), some (.int _)], [.ref _], _)) rfl (u_ rfl) ?_
          refine w_t (pc := 21) (e_s := (1, 1, 1, 0, 0, .null, [])) (y_s := (22, [some (.ref _), some (.int _), some (.int _)], [.int _, .ref _], _)) rfl (u_ rfl) ?_
          refine wcV (pc := 22) (len_s := 3) rfl rfl (l := [some (.ref _), some (.int _), none]) rfl (wmV t_s (fun h5 hk t_s => ?_))
          replace t_s := t_s hk
          refine w_t (pc := 25) (e_s := (3, 1, 0, 0, 0, .null, [])) (y_s := (26, [some (.ref _), some (.int _), some (.int _)], [.ref _], _)) rfl (u_ rfl) ?_
          refine w_t (pc := 26) (e_s := (1, 1, 2, 0, 0, .null, [])) (y_s := (27, [some (.ref _), some (.int _), some (.int _)], [.int _, .ref _], _)) rfl (u_ rfl) ?_
          refine wcI (pc := 27) (len_s := 3) rfl rfl (l := [some (.ref _), some (.int _)]) rfl ?_
          refine w_t (pc := 0) (e_s := (3, 1, 0, 0, 0, .null, [])) (y_s := (1, [some (.ref _), some (.int _)], [.ref _], _)) rfl (u_ rfl) ?_
          refine w20r (pc := 1) (len_s := 3) (q_s := 112) rfl (krq hk rfl) ?_
          refine w_t (pc := 4) (e_s := (0, 1, 0, 0, 0, .int 2, [])) (y_s := (5, [some (.ref _), some (.int _)], [.int _, .ref _], _)) rfl (u_ rfl) ?_
          refine w22 (pc := 5) (len_s := 1) rfl (hk.1 112 0 7 rfl rfl) (fun c6_s => ?_)
          refine w_t (pc := 6) (e_s := (0, 2, 0, 0, 0, .int 99, [])) (y_s := (8, [some (.ref _), some (.int _)], [.int _, .int _], _)) rfl (u_ rfl) ?_
          refine wi3 (pc := 8) (len_s := 3) (Y := 99) rfl rfl (by decide) (fun c7_s => ?_) (fun c7_s => ?_)
          · replace t_s := t_s.1 c7_s
            refine w_t (pc := 11) (e_s := (3, 1, 0, 0, 0, .null, [])) (y_s := (12, [some (.ref _), some (.int _)], [.ref _], _)) rfl (u_ rfl) ?_
            refine w20r (pc := 12) (len_s := 3) (q_s := 103) rfl (krq hk rfl) ?_
            refine w_t (pc := 15) (e_s := (0, 2, 0, 0, 0, .int 80, [])) (y_s := (17, [some (.ref _), some (.int _)], [.int _, .ref _], _)) rfl (u_ rfl) ?_
            refine w_t (pc := 17) (e_s := (1, 1, 1, 0, 0, .null, [])) (y_s := (18, [some (.ref _), some (.int _)], [.int _, .int _, .ref _], _)) rfl (u_ rfl) ?_
            refine w_t (pc := 18) (e_s := (7, 1, 0, 0, 0, .null, [])) (y_s := (19, [some (.ref _), some (.int _)], [.int (_ + _), .ref _], _)) rfl (u_ rfl) ?_
            refine w22 (pc := 19) (len_s := 1) rfl (hk.1 103 0 104 rfl rfl) (fun c8_s => ?_)
            replace t_s := t_s c8_s
            refine w_t (pc := 20) (e_s := (3, 1, 0, 0, 0, .null, [])) (y_s := (21, [some (.ref _), some (.int _)], [.ref _, .int _], _)) rfl (u_ rfl) ?_
            refine w20r (pc := 21) (len_s := 3) (q_s := 112) rfl (krq hk rfl) ?_
            refine w_t (pc := 24) (e_s := (0, 1, 0, 0, 0, .int 2, [])) (y_s := (25, [some (.ref _), some (.int _)], [.int _, .ref _, .int _], _)) rfl (u_ rfl) ?_
            refine w22 (pc := 25) (len_s := 1) rfl (hk.1 112 0 7 rfl rfl) (fun c9_s => ?_)
            refine wcI (pc := 26) (len_s := 3) rfl rfl (l := [some (.int _)]) rfl ?_
            refine w_t (pc := 0) (e_s := (0, 2, 0, 0, 0, .int 9, [])) (y_s := (2, [some (.int _)], [.int _], _)) rfl (u_ rfl) ?_
            refine w_t (pc := 2) (e_s := (1, 1, 0, 0, 0, .null, [])) (y_s := (3, [some (.int _)], [.int _, .int _], _)) rfl (u_ rfl) ?_
            refine w_t (pc := 3) (e_s := (0, 2, 0, 0, 0, .int 11, [])) (y_s := (5, [some (.int _)], [.int _, .int _, .int _], _)) rfl (u_ rfl) ?_
            refine w8 (pc := 5) (len_s := 1) rfl ?_
            refine w_t (pc := 6) (e_s := (7, 1, 0, 1, 0, .null, [])) (y_s := (7, [some (.int _)], [.int (_ - _)], _)) rfl (u_ rfl) ?_
            refine wrI (pc := 7) (len_s := 1) rfl hk ?_
            show wF _ 182 (29, [some (.ref _), some (.int _)], [.int _, .int _], _) _
            refine wi4 (pc := 29) (len_s := 3) rfl rfl rfl (fun c10_s => ?_) (fun c10_s => ?_)
            · replace t_s := t_s.1 c10_s
              refine w_t (pc := 36) (e_s := (0, 1, 0, 0, 0, .int 0, [])) (y_s := (37, [some (.ref _), some (.int _)], [.int _], _)) rfl (u_ rfl) ?_
              refine wrI (pc := 37) (len_s := 1) rfl hk ?_
              show wF _ 212 (30, [some (.ref _), some (.int _), some (.int _)], [.int _], _) _
              refine w_t (pc := 30) (e_s := (15, 3, 36, 1, 0, .null, [])) (y_s := (33, [some (.ref _), some (.int _), some (.int _)], [], _)) rfl (u_ rfl) ?_
              refine w_t (pc := 33) (e_s := (0, 2, 0, 0, 0, .int (-5), [])) (y_s := (35, [some (.ref _), some (.int _), some (.int _)], [.int _], _)) rfl (u_ rfl) ?_
              exact wrI (pc := 35) (len_s := 1) rfl hk t_s
            · replace t_s := t_s.2 c10_s
              refine w_t (pc := 32) (e_s := (0, 1, 0, 0, 0, .int 1, [])) (y_s := (33, [some (.ref _), some (.int _)], [.int _], _)) rfl (u_ rfl) ?_
              refine w_t (pc := 33) (e_s := (17, 3, 37, 0, 0, .null, [])) (y_s := (37, [some (.ref _), some (.int _)], [.int _], _)) rfl (u_ rfl) ?_
              refine wrI (pc := 37) (len_s := 1) rfl hk ?_
              show wF _ 212 (30, [some (.ref _), some (.int _), some (.int _)], [.int _], _) _
              refine w_t (pc := 30) (e_s := (15, 3, 36, 1, 0, .null, [])) (y_s := (36, [some (.ref _), some (.int _), some (.int _)], [], _)) rfl (u_ rfl) ?_
              refine w_t (pc := 36) (e_s := (3, 1, 0, 0, 0, .null, [])) (y_s := (37, [some (.ref _), some (.int _), some (.int _)], [.ref _], _)) rfl (u_ rfl) ?_
              refine w_t (pc := 37) (e_s := (1, 1, 2, 0, 0, .null, [])) (y_s := (38, [some (.ref _), some (.int _), some (.int _)], [.int _, .ref _], _)) rfl (u_ rfl) ?_
              refine wcV (pc := 38) (len_s := 3) rfl rfl (l := [some (.ref _), some (.int _), none]) rfl (wmV t_s (fun h11 hk t_s => ?_))
              replace t_s := t_s hk
              refine w_t (pc := 41) (e_s := (3, 1, 0, 0, 0, .null, [])) (y_s := (42, [some (.ref _), some (.int _), some (.int _)], [.ref _], _)) rfl (u_ rfl) ?_
              refine w_t (pc := 42) (e_s := (1, 1, 1, 0, 0, .null, [])) (y_s := (43, [some (.ref _), some (.int _), some (.int _)], [.int _, .ref _], _)) rfl (u_ rfl) ?_
              refine wcV (pc := 43) (len_s := 3) rfl rfl (l := [some (.ref _), some (.int _), none]) rfl (wmV t_s (fun h12 hk t_s => ?_))
              replace t_s := t_s hk
              refine w_t (pc := 46) (e_s := (3, 1, 0, 0, 0, .null, [])) (y_s := (47, [some (.ref _), some (.int _), some (.int _)], [.ref _], _)) rfl (u_ rfl) ?_
              refine w20r (pc := 47) (len_s := 3) (q_s := 119) rfl (krq hk rfl) ?_
              refine w_t (pc := 50) (e_s := (0, 1, 0, 0, 0, .int 2, [])) (y_s := (51, [some (.ref _), some (.int _), some (.int _)], [.int _, .ref _], _)) rfl (u_ rfl) ?_
              refine w_t (pc := 51) (e_s := (41, 1, 0, 0, 0, .null, [])) (y_s := (52, [some (.ref _), some (.int _), some (.int _)], [.int _, .ref _, .int _, .ref _], _)) rfl (u_ rfl) ?_
              refine w22 (pc := 52) (len_s := 1) rfl (hk.1 119 0 5 rfl rfl) (fun c13_s => ?_)
              refine w_t (pc := 53) (e_s := (3, 1, 0, 0, 0, .null, [])) (y_s := (54, [some (.ref _), some (.int _), some (.int _)], [.ref _, .int _, .int _, .ref _], _)) rfl (u_ rfl) ?_
              refine w20 (pc := 54) (len_s := 3) rfl ?_
              refine wq0 (pc := 57) (len_s := 3) rfl rfl (fun c14_s => ?_) (fun c14_s => ?_)
              · replace t_s := t_s.1 c14_s
                refine w_t (pc := 64) (e_s := (0, 1, 0, 0, 0, .int 0, [])) (y_s := (65, [some (.ref _), some (.int _), some (.int _)], [.int _, .int _, .int _, .ref _], _)) rfl (u_ rfl) ?_
                refine w_t (pc := 65) (e_s := (7, 1, 0, 0, 0, .null, [])) (y_s := (66, [some (.ref _), some (.int _), some (.int _)], [.int (_ + _), .int _, .ref _], _)) rfl (u_ rfl) ?_
                refine w25 (pc := 66) (len_s := 1) rfl (hk.1 119 0 5 rfl rfl) (fun c15_s => ?_)
                refine w_t (pc := 67) (e_s := (3, 1, 0, 0, 0, .null, [])) (y_s := (68, [some (.ref _), some (.int _), some (.int _)], [.ref _], _)) rfl (u_ rfl) ?_
                refine w20r (pc := 68) (len_s := 3) (q_s := 119) rfl (krq hk rfl) ?_
                refine w_t (pc := 71) (e_s := (0, 1, 0, 0, 0, .int 3, [])) (y_s := (72, [some (.ref _), some (.int _), some (.int _)], [.int _, .ref _], _)) rfl (u_ rfl) ?_
                refine w_t (pc := 72) (e_s := (41, 1, 0, 0, 0, .null, [])) (y_s := (73, [some (.ref _), some (.int _), some (.int _)], [.int _, .ref _, .int _, .ref _], _)) rfl (u_ rfl) ?_
                refine w22 (pc := 73) (len_s := 1) rfl (hk.1 119 0 5 rfl rfl) (fun c16 => ?_)
                refine w_t (pc := 74) (e_s := (3, 1, 0, 0, 0, .null, [])) (y_s := (75, [some (.ref _), some (.int _), some (.int _)], [.ref _, .int _, .int _, .ref _], _)) rfl (u_ rfl) ?_
                refine w20 (pc := 75) (len_s := 3) rfl ?_
                refine w_t (pc := 78) (e_s := (7, 1, 0, 0, 0, .null, [])) (y_s := (79, [some (.ref _), some (.int _), some (.int _)], [.int (_ + _), .int _, .ref _], _)) rfl (u_ rfl) ?_
                refine w25 (pc := 79) (len_s := 1) rfl (hk.1 119 0 5 rfl rfl) (fun c17 => ?_)
                refine w_t (pc := 80) (e_s := (3, 1, 0, 0, 0, .null, [])) (y_s := (81, [some (.ref _), some (.int _), some (.int _)], [.ref _], _)) rfl (u_ rfl) ?_
                refine w20r (pc := 81) (len_s := 3) (q_s := 119) rfl (krq hk rfl) ?_
                refine w_t (pc := 84) (e_s := (0, 1, 0, 0, 0, .int 4, [])) (y_s := (85, [some (.ref _), some (.int _), some (.int _)], [.int _, .ref _], _)) rfl (u_ rfl) ?_
                refine w_t (pc := 85) (e_s := (41, 1, 0, 0, 0, .null, [])) (y_s := (86, [some (.ref _), some (.int _), some (.int _)], [.int _, .ref _, .int _, .ref _], _)) rfl (u_ rfl) ?_
                refine w22 (pc := 86) (len_s := 1) rfl (hk.1 119 0 5 rfl rfl) (fun c18_s => ?_)
                refine w_t (pc := 87) (e_s := (3, 1, 0, 0, 0, .null, [])) (y_s := (88, [some (.ref _), some (.int _), some (.int _)], [.ref _, .int _, .int _, .ref _], _)) rfl (u_ rfl) ?_
                refine w20r (pc := 88) (len_s := 3) (q_s := 112) rfl (krq hk rfl) ?_
                refine w_t (pc := 91) (e_s := (0, 1, 0, 0, 0, .int 2, [])) (y_s := (92, [some (.ref _), some (.int _), some (.int _)], [.int _, .ref _, .int _, .int _, .ref _], _)) rfl (u_ rfl) ?_
                refine w22 (pc := 92) (len_s := 1) rfl (hk.1 112 0 7 rfl rfl) (fun c19_s => ?_)
                refine w_t (pc := 93) (e_s := (0, 2, 0, 0, 0, .int 99, [])) (y_s := (95, [some (.ref _), some (.int _), some (.int _)], [.int _, .int _, .int _, .int _, .ref _], _)) rfl (u_ rfl) ?_
                refine wi1 (pc := 95) (len_s := 3) (Y := 99) rfl rfl (by decide) (fun c20_s => ?_) (fun c20_s => ?_)
                · replace t_s := t_s.1 c20_s
                  refine w_t (pc := 98) (e_s := (0, 1, 0, 0, 0, .int 1, [])) (y_s := (99, [some (.ref _), some (.int _), some (.int _)], [.int _, .int _, .int _, .ref _], _)) rfl (u_ rfl) ?_
                  refine w_t (pc := 99) (e_s := (17, 3, 103, 0, 0, .null, [])) (y_s := (103, [some (.ref _), some (.int _), some (.int _)], [.int _, .int _, .int _, .ref _], _)) rfl (u_ rfl) ?_
                  refine w_t (pc := 103) (e_s := (7, 1, 0, 0, 0, .null, [])) (y_s := (104, [some (.ref _), some (.int _), some (.int _)], [.int (_ + _), .int _, .ref _], _)) rfl (u_ rfl) ?_
                  refine w25 (pc := 104) (len_s := 1) rfl (hk.1 119 0 5 rfl rfl) (fun c21 => ?_)
                  refine w_t (pc := 105) (e_s := (3, 1, 0, 0, 0, .null, [])) (y_s := (106, [some (.ref _), some (.int _), some (.int _)], [.ref _], _)) rfl (u_ rfl) ?_
                  refine w20 (pc := 106) (len_s := 3) rfl ?_
                  exact wrI (pc := 109) (len_s := 1) rfl hk t_s
                · replace t_s := t_s.2 c20_s
                  refine w_t (pc := 102) (e_s := (0, 1, 0, 0, 0, .int 0, [])) (y_s := (103, [some (.ref _), some (.int _), some (.int _)], [.int _, .int _, .int _, .ref _], _)) rfl (u_ rfl) ?_
                  refine w_t (pc := 103) (e_s := (7, 1, 0, 0, 0, .null, [])) (y_s := (104, [some (.ref _), some (.int _), some (.int _)], [.int (_ + _), .int _, .ref _], _)) rfl (u_ rfl) ?_
                  refine w25 (pc := 104) (len_s := 1) rfl (hk.1 119 0 5 rfl rfl) (fun c22 => ?_)
                  refine w_t (pc := 105) (e_s := (3, 1, 0, 0, 0, .null, [])) (y_s := (106, [some (.ref _), some (.int _), some (.int _)], [.ref _], _)) rfl (u_ rfl) ?_
                  refine w20 (pc := 106) (len_s := 3) rfl ?_
                  exact wrI (pc := 109) (len_s := 1) rfl hk t_s
              · replace t_s := t_s.2 c14_s
                refine w_t (pc := 60) (e_s := (0, 1, 0, 0, 0, .int 1, [])) (y_s := (61, [some (.ref _), some (.int _), some (.int _)], [.int _, .int _, .int _, .ref _], _)) rfl (u_ rfl) ?_
                refine w_t (pc := 61) (e_s := (17, 3, 65, 0, 0, .null, [])) (y_s := (65, [some (.ref _), some (.int _), some (.int _)], [.int _, .int _, .int _, .ref _], _)) rfl (u_ rfl) ?_
                refine w_t (pc := 65) (e_s := (7, 1, 0, 0, 0, .null, [])) (y_s := (66, [some (.ref _), some (.int _), some (.int _)], [.int (_ + _), .int _, .ref _], _)) rfl (u_ rfl) ?_
                refine w25 (pc := 66) (len_s := 1) rfl (hk.1 119 0 5 rfl rfl) (fun c23_s => ?_)
                refine w_t (pc := 67) (e_s := (3, 1, 0, 0, 0, .null, [])) (y_s := (68, [some (.ref _), some (.int _), some (.int _)], [.ref _], _)) rfl (u_ rfl) ?_
                refine w20r (pc := 68) (len_s := 3) (q_s := 119) rfl (krq hk rfl) ?_
                refine w_t (pc := 71) (e_s := (0, 1, 0, 0, 0, .int 3, [])) (y_s := (72, [some (.ref _), some (.int _), some (.int _)], [.int _, .ref _], _)) rfl (u_ rfl) ?_
                refine w_t (pc := 72) (e_s := (41, 1, 0, 0, 0, .null, [])) (y_s := (73, [some (.ref _), some (.int _), some (.int _)], [.int _, .ref _, .int _, .ref _], _)) rfl (u_ rfl) ?_
                refine w22 (pc := 73) (len_s := 1) rfl (hk.1 119 0 5 rfl rfl) (fun c24_s => ?_)
                refine w_t (pc := 74) (e_s := (3, 1, 0, 0, 0, .null, [])) (y_s := (75, [some (.ref _), some (.int _), some (.int _)], [.ref _, .int _, .int _, .ref _], _)) rfl (u_ rfl) ?_
                refine w20 (pc := 75) (len_s := 3) rfl ?_
                refine w_t (pc := 78) (e_s := (7, 1, 0, 0, 0, .null, [])) (y_s := (79, [some (.ref _), some (.int _), some (.int _)], [.int (_ + _), .int _, .ref _], _)) rfl (u_ rfl) ?_
                refine w25 (pc := 79) (len_s := 1) rfl (hk.1 119 0 5 rfl rfl) (fun c25_s => ?_)
                refine w_t (pc := 80) (e_s := (3, 1, 0, 0, 0, .null, [])) (y_s := (81, [some (.ref _), some (.int _), some (.int _)], [.ref _], _)) rfl (u_ rfl) ?_
                refine w20r (pc := 81) (len_s := 3) (q_s := 119) rfl (krq hk rfl) ?_
                refine w_t (pc := 84) (e_s := (0, 1, 0, 0, 0, .int 4, [])) (y_s := (85, [some (.ref _), some (.int _), some (.int _)], [.int _, .ref _], _)) rfl (u_ rfl) ?_
                refine w_t (pc := 85) (e_s := (41, 1, 0, 0, 0, .null, [])) (y_s := (86, [some (.ref _), some (.int _), some (.int _)], [.int _, .ref _, .int _, .ref _], _)) rfl (u_ rfl) ?_
                refine w22 (pc := 86) (len_s := 1) rfl (hk.1 119 0 5 rfl rfl) (fun c26 => ?_)
                refine w_t (pc := 87) (e_s := (3, 1, 0, 0, 0, .null, [])) (y_s := (88, [some (.ref _), some (.int _), some (.int _)], [.ref _, .int _, .int _, .ref _], _)) rfl (u_ rfl) ?_
                refine w20r (pc := 88) (len_s := 3) (q_s := 112) rfl (krq hk rfl) ?_
                refine w_t (pc := 91) (e_s := (0, 1, 0, 0, 0, .int 2, [])) (y_s := (92, [some (.ref _), some (.int _), some (.int _)], [.int _, .ref _, .int _, .int _, .ref _], _)) rfl (u_ rfl) ?_
                refine w22 (pc := 92) (len_s := 1) rfl (hk.1 112 0 7 rfl rfl) (fun c27_s => ?_)
                refine w_t (pc := 93) (e_s := (0, 2, 0, 0, 0, .int 99, [])) (y_s := (95, [some (.ref _), some (.int _), some (.int _)], [.int _, .int _, .int _, .int _, .ref _], _)) rfl (u_ rfl) ?_
                refine wi1 (pc := 95) (len_s := 3) (Y := 99) rfl rfl (by decide) (fun c28_s => ?_) (fun c28_s => ?_)
                · replace t_s := t_s.1 c28_s
                  refine w_t (pc := 98) (e_s := (0, 1, 0, 0, 0, .int 1, [])) (y_s := (99, [some (.ref _), some (.int _), some (.int _)], [.int _, .int _, .int _, .ref _], _)) rfl (u_ rfl) ?_
                  refine w_t (pc := 99) (e_s := (17, 3, 103, 0, 0, .null, [])) (y_s := (103, [some (.ref _), some (.int _), some (.int _)], [.int _, .int _, .int _, .ref _], _)) rfl (u_ rfl) ?_
                  refine w_t (pc := 103) (e_s := (7, 1, 0, 0, 0, .null, [])) (y_s := (104, [some (.ref _), some (.int _), some (.int _)], [.int (_ + _), .int _, .ref _], _)) rfl (u_ rfl) ?_
                  refine w25 (pc := 104) (len_s := 1) rfl (hk.1 119 0 5 rfl rfl) (fun c29_s => ?_)
                  refine w_t (pc := 105) (e_s := (3, 1, 0, 0, 0, .null, [])) (y_s := (106, [some (.ref _), some (.int _), some (.int _)], [.ref _], _)) rfl (u_ rfl) ?_
                  refine w20 (pc := 106) (len_s := 3) rfl ?_
                  exact wrI (pc := 109) (len_s := 1) rfl hk t_s
                · replace t_s := t_s.2 c28_s
                  refine w_t (pc := 102) (e_s := (0, 1, 0, 0, 0, .int 0, [])) (y_s := (103, [some (.ref _), some (.int _), some (.int _)], [.int _, .int _, .int _, .ref _], _)) rfl (u_ rfl) ?_
                  refine w_t (pc := 103) (e_s := (7, 1, 0, 0, 0, .null, [])) (y_s := (104, [some (.ref _), some (.int _), some (.int _)], [.int (_ + _), .int _, .ref _], _)) rfl (u_ rfl) ?_
                  refine w25 (pc := 104) (len_s := 1) rfl (hk.1 119 0 5 rfl rfl) (fun c30_s => ?_)
                  refine w_t (pc := 105) (e_s := (3, 1, 0, 0, 0, .null, [])) (y_s := (106, [some (.ref _), some (.int _), some (.int _)], [.ref _], _)) rfl (u_ rfl) ?_
                  refine w20 (pc := 106) (len_s := 3) rfl ?_
                  exact wrI (pc := 109) (len_s := 1) rfl hk t_s
          · replace t_s := t_s.2 c7_s
            refine w_t (pc := 36) (e_s := (0, 1, 0, 0, 0, .int 0, [])) (y_s := (37, [some (.ref _), some (.int _)], [.int _], _)) rfl (u_ rfl) ?_
            refine wrI (pc := 37) (len_s := 1) rfl hk ?_
            show wF _ 212 (30, [some (.ref _), some (.int _), some (.int _)], [.int _], _) _
            refine w_t (pc := 30) (e_s := (15, 3, 36, 1, 0, .null, [])) (y_s := (33, [some (.ref _), some (.int _), some (.int _)], [], _)) rfl (u_ rfl) ?_
            refine w_t (pc := 33) (e_s := (0, 2, 0, 0, 0, .int (-5), [])) (y_s := (35, [some (.ref _), some (.int _), some (.int _)], [.int _], _)) rfl (u_ rfl) ?_
            exact wrI (pc := 35) (len_s := 1) rfl hk t_s
/-! IN DEED: an idea goes a road, a stroke. -/
section UP_s
variable {nh ni nr i_s : Nat} {f_s f2_s : Nat → Nat → Int32} {o : oI}
theorem tC_setI (hc_s : tC nh ni nr f_s) (hi_s : i_s < 8) (h1 : ∀ k_s, k_s < 6 → f2_s (20 + i_s) k_s = o k_s ∧ f2_s 103 (12 + 8 * k_s + i_s) = o k_s) (hB_s : oB o) (hf : ∀ a_s k_s, inC a_s k_s → ¬ (a_s = 20 + i_s ∧ k_s < 6) → ¬ (a_s = 103 ∧ 12 ≤ k_s ∧ k_s < 60 ∧ (k_s - 12) % 8 = i_s) → f2_s a_s k_s = f_s a_s k_s) : tC nh ni nr f2_s := by
  obtain ⟨a0_s, ⟨a1_s, a2, a3⟩, ⟨a4, a5, a6⟩, a7, a8, a9⟩ := hc_s
  have fr_s : ∀ a_s k_s, (a_s = 7 ∧ 6 ≤ k_s ∧ k_s ≤ 8) ∨ (a_s = 102 ∧ 6 ≤ k_s ∧ k_s ≤ 8) ∨ (28 ≤ a_s ∧ a_s < 40 ∧ k_s < 5) ∨ ((a_s = 107 ∨ a_s = 108) ∧ k_s < 12) → f2_s a_s k_s = f_s a_s k_s := fun a_s k_s q_s => hf a_s k_s (by unfold inC; omega) (by omega) (by omega)
  refine ⟨a0_s, ⟨?_, ?_, ?_⟩, ⟨?_, ?_, ?_⟩, fun n_s w_s hw hn h8 => ?_, fun j_s j1 j2_s => ?_, fun r_s hr => ?_⟩
  · rw [fr_s 7 6 (by omega)]
    exact a1_s
  · rw [fr_s 7 7 (by omega)]
    exact a2
  · rw [fr_s 7 8 (by omega)]
    exact a3
  · rw [fr_s 102 6 (by omega)]
    exact a4
  · rw [fr_s 102 7 (by omega)]
    exact a5
  · rw [fr_s 102 8 (by omega)]
    exact a6
  · have u_s := a7 n_s w_s hw hn h8
    have ci := cell_in hw hn
    have pl := plc_lt hw hn
    by_cases w2_s : w_s < 2
    · rw [cap_h w2_s] at hn
      rw [cO_h w2_s, cF_h w2_s, plc_h w2_s] at u_s ⊢
      rw [hf (8 + w_s) n_s (by unfold inC; omega) (by omega) (by omega), hf 103 (6 * w_s + n_s) (by unfold inC; omega) (by omega) (by omega)]
      exact u_s
    · by_cases w9 : w_s < 9
      · rw [cap_i (by omega) w9] at hn
        rw [cO_i (by omega) w9, cF_i (by omega) w9, plc_i (by omega) w9] at u_s ⊢
        by_cases e_s : n_s = i_s ∧ w_s < 8
        · obtain ⟨rfl, e8⟩ := e_s
          have q_s := h1 (w_s - 2) (by omega)
          rw [q_s.1, q_s.2]
          refine ⟨rfl, ?_⟩
          rw [vB_n (by omega)]
          obtain ⟨b0, b1, b2, b3, b4, b5, b6⟩ := hB_s
          have hw6 : w_s = 2 ∨ w_s = 3 ∨ w_s = 4 ∨ w_s = 5 ∨ w_s = 6 ∨ w_s = 7 := by omega
          rcases hw6 with e_s | e_s | e_s | e_s | e_s | e_s
          · subst e_s
            exact ⟨b0.1, b0.2, fun e9_s => absurd e9_s (by omega)⟩
          · subst e_s
            exact ⟨b1.1, b1.2, fun e9_s => absurd e9_s (by omega)⟩
          · subst e_s
            exact ⟨b2.1, b2.2, fun e9_s => absurd e9_s (by omega)⟩
          · subst e_s
            exact ⟨b3.1, b3.2, fun e9_s => absurd e9_s (by omega)⟩
          · subst e_s
            exact ⟨b4.1, b4.2, fun e9_s => absurd e9_s (by omega)⟩
          · subst e_s
            exact ⟨b5.1, b5.2, fun e9_s => absurd e9_s (by omega)⟩
        · rw [hf (20 + n_s) (w_s - 2) (by unfold inC; omega) (by omega) (by omega), hf 103 (12 + 8 * (w_s - 2) + n_s) (by unfold inC; omega) (by omega) (by omega)]
          exact u_s
      · rw [cap_r (by omega)] at hn
        rw [cO_r (by omega), cF_r (by omega), plc_r (by omega)] at u_s ⊢
        rw [hf (28 + n_s) (w_s - 7) (by unfold inC; omega) (by omega) (by omega), hf 103 (68 + 12 * (w_s - 9) + n_s) (by unfold inC; omega) (by omega) (by omega)]
        exact u_s
  · rw [hf (20 + j_s) 6 (by unfold inC; omega) (by omega) (by omega)]
    exact a8 j_s j1 j2_s
  · rw [fr_s (28 + r_s) 0 (by omega), fr_s (28 + r_s) 1 (by omega), fr_s 107 r_s (by omega), fr_s 108 r_s (by omega)]
    exact a9 r_s hr
end UP_s
theorem tX_upI {nh ni nr i_s : Nat} {h_s h2 : zH} {o : oI} (hc_s : tC nh ni nr h_s.2.1) (hh : tH nh ni nr h_s.2.1) (hi_ : tI nh ni nr h_s.2.1) (hz : tZ h_s.2.1) (hl : tLw h_s) (hi_s : i_s < 8) (h1 : ∀ k_s, k_s < 6 → h2.2.1 (20 + i_s) k_s = o k_s ∧ h2.2.1 103 (12 + 8 * k_s + i_s) = o k_s) (hB_s : oB o) (hD : tD h2.2.1) (hr : ∀ k_s, h2.2.2.2 7 k_s = h_s.2.2.2 7 k_s) (hf : ∀ a_s k_s, inX a_s k_s → ¬ (a_s = 20 + i_s ∧ k_s < 6) → ¬ (a_s = 103 ∧ 12 ≤ k_s ∧ k_s < 60 ∧ (k_s - 12) % 8 = i_s) → ¬ inD a_s k_s → h2.2.1 a_s k_s = h_s.2.1 a_s k_s) : tX h2 := by
  refine ⟨nh, ni, nr, tC_setI hc_s hi_s h1 hB_s (fun a_s k_s q_s g1 g2 => hf a_s k_s (Or.inl q_s) g1 g2 (by unfold inC at q_s; unfold inD; omega)), tH_fr (fun a_s k_s q_s => hf a_s k_s (Or.inr (Or.inl q_s)) ?_ ?_ ?_) hh, tI_fr (fun a_s k_s q_s => hf a_s k_s (Or.inr (Or.inr (Or.inl q_s))) ?_ ?_ ?_) hi_ hc_s.1.2.1, hD, tZ_fr (fun a_s k_s q_s => hf a_s k_s (Or.inr (Or.inr (Or.inr (Or.inr (Or.inl q_s))))) ?_ ?_ ?_) hz, tLw_fr hr (fun a_s k_s q_s => hf a_s k_s (Or.inr (Or.inr (Or.inr (Or.inr (Or.inr q_s))))) ?_ ?_ ?_) hl⟩
  · unfold inH at q_s
    omega
  · unfold inH at q_s
    omega
  · unfold inH at q_s
    unfold inD
    omega
  · unfold inI at q_s
    omega
  · unfold inI at q_s
    omega
  · unfold inI at q_s
    unfold inD
    omega
  · unfold inZ at q_s
    omega
  · unfold inZ at q_s
    omega
  · unfold inZ at q_s
    unfold inD
    omega
  · unfold inW at q_s
    omega
  · unfold inW at q_s
    omega
  · unfold inW at q_s
    unfold inD
    omega
section GS
variable {h_s : zH} {K_s : Int32 → zH → Prop} {V : zH → Prop} {nh ni nr : Nat} {lw : Option (List pB)} {x1_s x2_s : Int32} {f_s : Nat → Nat → Int32}
theorem ko210 {i_s : Nat} {f0_s : Nat → Nat → Int32} (hk : hKn h_s) (hx : x1_s.toInt = (i_s : Int)) (hi_s : i_s < 8) (t_s : ∀ f1_s, (∀ k_s, k_s < 6 → f1_s 103 (12 + 8 * k_s + i_s) = f0_s 112 k_s) → (∀ a_s k_s, ¬ (a_s = 103 ∧ 12 ≤ k_s ∧ k_s < 60 ∧ (k_s - 12) % 8 = i_s) → f1_s a_s k_s = f0_s a_s k_s) → V (h_s.1, f1_s, h_s.2.2.1, h_s.2.2.2)) : ∀ (F_s j_s : Nat) (x2_s : Int32) (f_s : Nat → Nat → Int32), x2_s.toInt = (j_s : Int) → j_s ≤ 6 → (∀ k_s, k_s < j_s → f_s 103 (12 + 8 * k_s + i_s) = f0_s 112 k_s) → (∀ a_s k_s, ¬ (a_s = 103 ∧ 12 ≤ k_s ∧ k_s < 60 ∧ (k_s - 12) % 8 = i_s) → f_s a_s k_s = f0_s a_s k_s) → wF F_s 210 (2, [some (.ref 102), some (.int x1_s), some (.int x2_s)], [], (h_s.1, f_s, h_s.2.2.1, h_s.2.2.2)) (gV V)
  | 0, _, _, _, _, _, _, _ => wF_zero
  | F_s + 1, j_s, x2_s, f_s, h2, hj, hf, hg => by
    have m8_s : (8 * x2_s).toInt = 8 * (j_s : Int) := by rw [na_mul (by rw [i8_]; omega) (by rw [i8_]; omega), i8_, h2]
    have m12_s : (12 + 8 * x2_s).toInt = ((12 + 8 * j_s : Nat) : Int) := by
      rw [na_add (by rw [i12_]; omega) (by rw [i12_]; omega), i12_, m8_s]
      omega
    have za : zix (12 + 8 * x2_s + x1_s) = 12 + 8 * j_s + i_s := zxa m12_s hx (by omega)
    have zj := azix (i := x2_s) (by omega)
    have ej : zix x2_s = j_s := by omega
    refine sg_210_2 (h_s := (h_s.1, f_s, h_s.2.2.1, h_s.2.2.2)) hk ?_
    dsimp only
    rw [za, ej, hg 112 j_s (by omega)]
    refine ⟨fun c1_s _ _ => ?_, fun c1_s => ?_⟩
    · refine ko210 hk hx hi_s t_s F_s (j_s + 1) (x2_s + 1) _ (by rw [in1_ (by omega)]; omega) (by omega) (fun k_s hk1 => ?_) (fun a_s k_s ha_s => ?_)
      · by_cases e_s : k_s = j_s
        · rw [e_s, zsame_up]
        · rw [zne_up (by omega)]
          exact hf k_s (by omega)
      · rw [zne_up (by omega)]
        exact hg a_s k_s ha_s
    · have e6_s : j_s = 6 := by omega
      subst e6_s
      exact t_s f_s hf hg
theorem sp_210 {F_s i_s : Nat} (hk : hKn h_s) (hx : x1_s.toInt = (i_s : Int)) (hi_s : i_s < 8) (t_s : ∀ f1_s, (∀ k_s, k_s < 6 → f1_s 103 (12 + 8 * k_s + i_s) = f_s 112 k_s) → (∀ a_s k_s, ¬ (a_s = 103 ∧ 12 ≤ k_s ∧ k_s < 60 ∧ (k_s - 12) % 8 = i_s) → f1_s a_s k_s = f_s a_s k_s) → V (h_s.1, f1_s, h_s.2.2.1, h_s.2.2.2)) : wF F_s 210 (0, [some (.ref 102), some (.int x1_s), none], [], (h_s.1, f_s, h_s.2.2.1, h_s.2.2.2)) (gV V) := wF_le (Nat.le_succ F_s) (sg_210_0 (h_s := (h_s.1, f_s, h_s.2.2.1, h_s.2.2.2)) hk (ko210 hk hx hi_s t_s F_s 0 0 f_s rfl (by omega) (fun k_s hq => absurd hq (Nat.not_lt_zero k_s)) (fun _ _ _ => rfl)))
noncomputable def okG (ni nr : Nat) (x1_s x2_s : Int32) : Prop := 0 ≤ x1_s.toInt ∧ x1_s.toInt < (ni : Int) ∧ 0 ≤ x2_s.toInt ∧ x2_s.toInt < (nr : Int)
noncomputable def goF (lw : Option (List pB)) (f_s : Nat → Nat → Int32) (o : oI) (r_s : Nat) : Nat × Bool × oI := goO lw (zix (f_s 103 (68 + r_s))) (f_s 103 (80 + r_s)) (f_s 103 (92 + r_s)) o
noncomputable def bI_ (b_s : Bool) : Int32 := if b_s = true then 1 else 0
noncomputable def lmI (o : oI) : Int32 := if (o 2).toInt < 99 then 0 else 1
theorem tM_ml {r_s : Nat} (hc_s : tM nh ni nr f_s) (hr : r_s < nr) : (f_s 103 (68 + r_s)).toInt = (zix (f_s 103 (68 + r_s)) : Int) ∧ zix (f_s 103 (68 + r_s)) ≤ 9 ∧ 1 ≤ zix (f_s 103 (68 + r_s)) := by
  have b_s := hc_s.1.2.2
  have u_s := tM_road (r_s := r_s) (j_s := 0) hc_s (by omega) (by omega)
  have u_s : 0 ≤ (f_s 103 (68 + r_s)).toInt ∧ (f_s 103 (68 + r_s)).toInt ≤ 9 ∧ (0 = 0 → r_s < nr → 1 ≤ (f_s 103 (68 + r_s)).toInt) := u_s
  have z_s := azix (i := f_s 103 (68 + r_s)) u_s.1
  have u4_s := u_s.2.2 rfl hr
  have u3 := u_s.2.1
  omega
theorem tC_rd {r_s : Nat} (hc_s : tC nh ni nr f_s) (hr : r_s < nr) : f_s (28 + r_s) 2 = f_s 103 (68 + r_s) ∧ f_s (28 + r_s) 3 = f_s 103 (80 + r_s) ∧ f_s (28 + r_s) 4 = f_s 103 (92 + r_s) := by
  have b_s := hc_s.1.2.2
  exact ⟨(tC_road (r_s := r_s) (j_s := 0) hc_s (by omega) (by omega)).1, (tC_road (r_s := r_s) (j_s := 1) hc_s (by omega) (by omega)).1, (tC_road (r_s := r_s) (j_s := 2) hc_s (by omega) (by omega)).1⟩
/-- goes, the class -/
theorem sp_118 {F_s q_s : Nat} (hk : hKn h_s) (hr9 : h_s.2.2.2 7 9 = some q_s) (hm_s : q_s = 14 ∨ q_s = 17) (hl : lawC q_s f_s lw) (hp : lwP lw) (hc_s : tC nh ni nr f_s) (t1_s : ¬ okG ni nr x1_s x2_s → K_s (-1) (h_s.1, f_s, h_s.2.2.1, h_s.2.2.2)) (t2_s : ∀ i_s r_s : Nat, x1_s.toInt = (i_s : Int) → x2_s.toInt = (r_s : Int) → i_s < ni → r_s < nr → ¬ ((owI f_s i_s 2).toInt < 99 ∧ ¬ (9 - owI f_s i_s 2 / 11).toInt < (f_s 103 (80 + r_s)).toInt) → K_s (-5) (h_s.1, f_s, h_s.2.2.1, h_s.2.2.2)) (t3_s : ∀ i_s r_s : Nat, x1_s.toInt = (i_s : Int) → x2_s.toInt = (r_s : Int) → i_s < ni → r_s < nr → (owI f_s i_s 2).toInt < 99 ∧ ¬ (9 - owI f_s i_s 2 / 11).toInt < (f_s 103 (80 + r_s)).toInt → ∀ v_s f1_s, v_s.toInt = ((goF lw f_s (owI f_s i_s) r_s).1 : Int) → (∀ k_s, k_s < 6 → f1_s (20 + i_s) k_s = (goF lw f_s (owI f_s i_s) r_s).2.2 k_s) → f1_s 73 2 = f_s 73 2 + bI_ (goF lw f_s (owI f_s i_s) r_s).2.1 → f1_s 73 3 = f_s 73 3 + v_s → f1_s 73 4 = f_s 73 4 + lmI (goF lw f_s (owI f_s i_s) r_s).2.2 → (∀ a_s k_s, ¬ a_s = 13 → ¬ a_s = 16 → ¬ a_s = 19 → ¬ (a_s = 20 + i_s ∧ (k_s = 2 ∨ k_s = 3)) → ¬ (a_s = 73 ∧ 2 ≤ k_s ∧ k_s ≤ 4) → f1_s a_s k_s = f_s a_s k_s) → K_s v_s (h_s.1, f1_s, h_s.2.2.1, h_s.2.2.2)) : wF F_s 118 (0, [some (.ref 6), some (.int x1_s), some (.int x2_s), none, none, none], [], (h_s.1, f_s, h_s.2.2.1, h_s.2.2.2)) (gI K_s) := by
  have e7_s := hc_s.2.1.2.1
  have e8 := hc_s.2.1.2.2
  have b_s := hc_s.1
  unfold okG at t1_s
  refine wF_le (Nat.le_succ F_s) (sg_118_0 (h_s := (h_s.1, f_s, h_s.2.2.1, h_s.2.2.2)) hk ?_)
  dsimp only
  rw [e7_s, e8]
  refine ⟨fun c_s => t1_s (by omega), fun c1_s => ⟨fun c2_s => ⟨fun c_s => t1_s (by omega), fun c3_s => ⟨fun c4_s => fun _ _ => ?_, fun c_s => t1_s (by omega)⟩⟩, fun c_s => t1_s (by omega)⟩⟩
  have z1 := azix (i := x1_s) (by omega)
  have z2 := azix (i := x2_s) (by omega)
  have hi_s : zix x1_s < ni := by omega
  have hr : zix x2_s < nr := by omega
  generalize zix x1_s = i_s at hi_s z1
  generalize zix x2_s = r_s at hr z2
  have hcw := tC_cw hc_s hi_s
  have hB_s := tC_oB hc_s hi_s
  obtain ⟨r2, r3, r4⟩ := tC_rd hc_s hr
  obtain ⟨m1_s, m2_s, m3_s⟩ := tM_ml (tC_M hc_s) hr
  have t2_s := t2_s i_s r_s z1.symm z2.symm hi_s hr
  have t3_s := t3_s i_s r_s z1.symm z2.symm hi_s hr
  rw [hcw.1 2 (by omega), r3]
  refine ⟨fun c7_s => ⟨fun c8_s => t2_s (fun w_s => w_s.2 c8_s), fun c8_s => ?_⟩, fun c7_s => t2_s (fun w_s => c7_s w_s.1)⟩
  have t3_s := t3_s ⟨c7_s, c8_s⟩
  refine sp_24 (m_s := zix (f_s 103 (68 + r_s))) hk hr9 hm_s hl hp (show dRo (20 + i_s) (28 + r_s) by unfold dRo; omega) (by rw [r2]; exact m1_s) m2_s hcw hB_s (fun v_s f1_s g1 g2 g3_s _ => ?_)
  rw [r3, r4] at g1 g2
  have g1 : v_s.toInt = ((goF lw f_s (owI f_s i_s) r_s).1 : Int) := g1
  have g2 : ∀ k_s, k_s < 6 → f1_s (20 + i_s) k_s = (goF lw f_s (owI f_s i_s) r_s).2.2 k_s := g2
  have eml : f1_s (28 + r_s) 2 = f_s 103 (68 + r_s) := by rw [g3_s _ _ (by omega) (by omega) (by omega) (by omega)]; exact r2
  have ew : f1_s (20 + i_s) 2 = (goF lw f_s (owI f_s i_s) r_s).2.2 2 := g2 2 (by omega)
  have l2 : f1_s 73 2 = f_s 73 2 := g3_s _ _ (by omega) (by omega) (by omega) (by omega)
  have l3 : f1_s 73 3 = f_s 73 3 := g3_s _ _ (by omega) (by omega) (by omega) (by omega)
  have l4 : f1_s 73 4 = f_s 73 4 := g3_s _ _ (by omega) (by omega) (by omega) (by omega)
  have gall : (goF lw f_s (owI f_s i_s) r_s).2.1 = true ↔ (goF lw f_s (owI f_s i_s) r_s).1 = zix (f_s 103 (68 + r_s)) := go_all m3_s
  dsimp only
  rw [zne_up (show ¬ (28 + r_s = 73 ∧ 2 = 3) by omega), eml, m1_s, g1, l2, l3, l4]
  have n2_s : ∀ v1_s v2, zup (zup f1_s 73 3 v1_s) 73 2 v2 (20 + i_s) 2 = (goF lw f_s (owI f_s i_s) r_s).2.2 2 := fun v1_s v2 => by rw [zne_up (by omega), zne_up (by omega)]; exact ew
  have n1_s : ∀ v1_s, zup f1_s 73 3 v1_s (20 + i_s) 2 = (goF lw f_s (owI f_s i_s) r_s).2.2 2 := fun v1_s => by rw [zne_up (by omega)]; exact ew
  rw [n2_s, n1_s]
  have fin_s : ∀ f2_s, (∀ a_s k_s, ¬ (a_s = 73 ∧ 2 ≤ k_s ∧ k_s ≤ 4) → f2_s a_s k_s = f1_s a_s k_s) → f2_s 73 2 = f_s 73 2 + bI_ (goF lw f_s (owI f_s i_s) r_s).2.1 → f2_s 73 3 = f_s 73 3 + v_s → f2_s 73 4 = f_s 73 4 + lmI (goF lw f_s (owI f_s i_s) r_s).2.2 → K_s v_s (h_s.1, f2_s, h_s.2.2.1, h_s.2.2.2) := fun f2_s q1_s q2_s q3_s q4_s => t3_s v_s f2_s g1 (fun k_s hk6 => by rw [q1_s _ _ (by omega)]; exact g2 k_s hk6) q2_s q3_s q4_s (fun a_s k_s p1_s p2_s p3_s p4_s p5_s => by rw [q1_s a_s k_s p5_s]; exact g3_s a_s k_s p1_s p2_s p3_s p4_s)
  have fr3 : ∀ (v1_s v2 v3 : Int32) a_s k_s, ¬ (a_s = 73 ∧ 2 ≤ k_s ∧ k_s ≤ 4) → zup (zup (zup f1_s 73 3 v1_s) 73 2 v2) 73 4 v3 a_s k_s = f1_s a_s k_s := fun v1_s v2 v3 a_s k_s q_s => by rw [zne_up (by omega), zne_up (by omega), zne_up (by omega)]
  refine ⟨fun c10_s => ⟨fun c11_s => fin_s _ (fun a_s k_s q_s => by rw [zne_up (by omega), zne_up (by omega)]) ?_ ?_ ?_, fun c11_s => fin_s _ (fr3 _ _ _) ?_ ?_ ?_⟩, fun c10_s => ⟨fun c11_s => fin_s _ (fun a_s k_s q_s => by rw [zne_up (by omega)]) ?_ ?_ ?_, fun c11_s => fin_s _ (fun a_s k_s q_s => by rw [zne_up (by omega), zne_up (by omega)]) ?_ ?_ ?_⟩⟩
  · rw [zsame_up, gall.mpr (by omega)]
    rfl
  · rw [zne_up (by omega), zsame_up]
  · rw [zne_up (by omega), zne_up (by omega), l4]
    unfold lmI
    rw [if_pos c11_s, iadd0]
  · rw [zne_up (by omega), zsame_up, gall.mpr (by omega)]
    rfl
  · rw [zne_up (by omega), zne_up (by omega), zsame_up]
  · rw [zsame_up]
    unfold lmI
    rw [if_neg c11_s]
  · rw [zne_up (by omega), l2]
    unfold bI_
    rw [if_neg (fun w_s => c10_s (by rw [gall.mp w_s])), iadd0]
  · rw [zsame_up]
  · rw [zne_up (by omega), l4]
    unfold lmI
    rw [if_pos c11_s, iadd0]
  · rw [zne_up (by omega), zne_up (by omega), l2]
    unfold bI_
    rw [if_neg (fun w_s => c10_s (by rw [gall.mp w_s])), iadd0]
  · rw [zne_up (by omega), zsame_up]
  · rw [zsame_up]
    unfold lmI
    rw [if_neg c11_s]
/-- goes, the reference -/
theorem sp_212 {F_s : Nat} (hk : hKn h_s) (hl : lawR f_s lw) (hp : lwP lw) (hc_s : tM nh ni nr f_s) (t1_s : ¬ okG ni nr x1_s x2_s → K_s (-1) (h_s.1, f_s, h_s.2.2.1, h_s.2.2.2)) (t2_s : ∀ i_s r_s : Nat, x1_s.toInt = (i_s : Int) → x2_s.toInt = (r_s : Int) → i_s < ni → r_s < nr → ¬ ((owI f_s i_s 2).toInt < 99 ∧ ¬ (9 - owI f_s i_s 2 / 11).toInt < (f_s 103 (80 + r_s)).toInt) → ∀ f1_s, (∀ a_s k_s, ¬ a_s = 112 → f1_s a_s k_s = f_s a_s k_s) → K_s (-5) (h_s.1, f1_s, h_s.2.2.1, h_s.2.2.2)) (t3_s : ∀ i_s r_s : Nat, x1_s.toInt = (i_s : Int) → x2_s.toInt = (r_s : Int) → i_s < ni → r_s < nr → (owI f_s i_s 2).toInt < 99 ∧ ¬ (9 - owI f_s i_s 2 / 11).toInt < (f_s 103 (80 + r_s)).toInt → ∀ v_s f1_s, v_s.toInt = ((goF lw f_s (owI f_s i_s) r_s).1 : Int) → (∀ k_s, k_s < 6 → f1_s 103 (12 + 8 * k_s + i_s) = (goF lw f_s (owI f_s i_s) r_s).2.2 k_s) → f1_s 119 2 = f_s 119 2 + bI_ (goF lw f_s (owI f_s i_s) r_s).2.1 → f1_s 119 3 = f_s 119 3 + v_s → f1_s 119 4 = f_s 119 4 + lmI (goF lw f_s (owI f_s i_s) r_s).2.2 → (∀ a_s k_s, ¬ a_s = 111 → ¬ a_s = 112 → ¬ (a_s = 102 ∧ (15 ≤ k_s ∧ k_s ≤ 19 ∨ k_s = 22 ∨ k_s = 23)) → ¬ (a_s = 103 ∧ 12 ≤ k_s ∧ k_s < 60 ∧ (k_s - 12) % 8 = i_s) → ¬ (a_s = 119 ∧ 2 ≤ k_s ∧ k_s ≤ 4) → f1_s a_s k_s = f_s a_s k_s) → K_s v_s (h_s.1, f1_s, h_s.2.2.1, h_s.2.2.2)) : wF F_s 212 (0, [some (.ref 102), some (.int x1_s), some (.int x2_s)], [], (h_s.1, f_s, h_s.2.2.1, h_s.2.2.2)) (gI K_s) := by
  have e7_s := sb1 hc_s.2.1.2.1
  have e8 := sb1 hc_s.2.1.2.2
  have b_s := hc_s.1
  unfold okG at t1_s
  refine wF_le (Nat.le_succ F_s) (sg_212_0 (h_s := (h_s.1, f_s, h_s.2.2.1, h_s.2.2.2)) hk ?_)
  dsimp only
  rw [e7_s, e8]
  refine ⟨fun c_s => t1_s (by omega), fun c1_s => ⟨fun c_s => t1_s (by omega), fun c2_s => ⟨fun c_s => t1_s (by omega), fun c3_s => ⟨fun c_s => t1_s (by omega), fun c4_s => ?_⟩⟩⟩⟩
  have hi_s : x1_s.toInt.toNat < ni := by omega
  have hr : x2_s.toInt.toNat < nr := by omega
  have h1 : x1_s.toInt = (x1_s.toInt.toNat : Int) := by omega
  have h2 : x2_s.toInt = (x2_s.toInt.toNat : Int) := by omega
  generalize x1_s.toInt.toNat = i_s at hi_s h1
  generalize x2_s.toInt.toNat = r_s at hr h2
  have t2_s := t2_s i_s r_s h1 h2 hi_s hr
  have t3_s := t3_s i_s r_s h1 h2 hi_s hr
  obtain ⟨m1_s, m2_s, m3_s⟩ := tM_ml hc_s hr
  have hB_s := tM_oB hc_s hi_s
  refine sp_178 hk h1 (by omega) (tM_hd hc_s hi_s).1 (fun f1_s g1 g2 hk1 => ?_)
  have z80 : zix (80 + x2_s) = 80 + r_s := zxa (c_s := 80) (a_s := 80) rfl h2 (by omega)
  have o2 : f1_s 112 2 = owI f_s i_s 2 := g1 2 (by omega)
  dsimp only
  rw [z80, o2, g2 103 (80 + r_s) (by omega)]
  refine ⟨fun c7_s _ => ⟨fun c8_s => t2_s (fun w_s => w_s.2 c8_s) f1_s g2, fun c8_s => ?_⟩, fun c7_s => t2_s (fun w_s => c7_s w_s.1) f1_s g2⟩
  have t3_s := t3_s ⟨c7_s, c8_s⟩
  have l1 : lawR f1_s lw := lawR_fr (g2 _ _ (by omega)) (fun k_s _ => g2 _ _ (by omega)) hl
  refine sp_183 (h_s := (h_s.1, f1_s, h_s.2.2.1, h_s.2.2.2)) (o := owI f_s i_s) (m_s := zix (f_s 103 (68 + r_s))) hk1 l1 hp h2 (by omega) (by rw [g2 103 _ (by omega)]; exact m1_s) m2_s g1 hB_s (fun f2_s p1_s p2_s p3_s p4_s hk2 => ?_)
  rw [g2 103 (80 + r_s) (by omega), g2 103 (92 + r_s) (by omega)] at p1_s p2_s p3_s
  have p1_s : (f2_s 102 22).toInt = ((goF lw f_s (owI f_s i_s) r_s).1 : Int) := p1_s
  have p2_s : (f2_s 102 23).toInt = (if (goF lw f_s (owI f_s i_s) r_s).2.1 = true then 1 else 0) := p2_s
  have p3_s : ∀ k_s, k_s < 7 → f2_s 112 k_s = (goF lw f_s (owI f_s i_s) r_s).2.2 k_s := p3_s
  refine sp_210 (h_s := (h_s.1, f2_s, h_s.2.2.1, h_s.2.2.2)) hk2 h1 (by omega) (fun f3_s s1_s s2_s _ => ?_)
  have l2 : ∀ k_s, f3_s 119 k_s = f_s 119 k_s := fun k_s => by rw [s2_s _ _ (by omega), p4_s _ _ (by omega) (by omega) (by omega), g2 _ _ (by omega)]
  have w2_s : f3_s 112 2 = (goF lw f_s (owI f_s i_s) r_s).2.2 2 := by rw [s2_s _ _ (by omega)]; exact p3_s 2 (by omega)
  have v22 : (f3_s 102 22).toInt = ((goF lw f_s (owI f_s i_s) r_s).1 : Int) := by rw [s2_s _ _ (by omega)]; exact p1_s
  have v23 : (f3_s 102 23).toInt = (if (goF lw f_s (owI f_s i_s) r_s).2.1 = true then 1 else 0) := by rw [s2_s _ _ (by omega)]; exact p2_s
  have hB2 : oB (goF lw f_s (owI f_s i_s) r_s).2.2 := go_B hB_s
  have lame : ((goF lw f_s (owI f_s i_s) r_s).2.2 2).toInt = 99 ↔ ¬ ((goF lw f_s (owI f_s i_s) r_s).2.2 2).toInt < 99 := by
    have u_s := hB2.2.2.1
    omega
  dsimp only
  rw [l2 2, l2 3, l2 4, w2_s]
  have fin_s : ∀ u2_s u4_s : Int32, u2_s = bI_ (goF lw f_s (owI f_s i_s) r_s).2.1 → u4_s = lmI (goF lw f_s (owI f_s i_s) r_s).2.2 → K_s (f3_s 102 22) (h_s.1, zup (zup (zup f3_s 119 2 (f_s 119 2 + u2_s)) 119 3 (f_s 119 3 + f3_s 102 22)) 119 4 (f_s 119 4 + u4_s), h_s.2.2.1, h_s.2.2.2) := fun u2_s u4_s e2_s e4_s => by
    refine t3_s (f3_s 102 22) _ v22 (fun k_s hk6 => ?_) ?_ ?_ ?_ (fun a_s k_s q1_s q2_s q3_s q4_s q5_s => ?_)
    · rw [zne_up (by omega), zne_up (by omega), zne_up (by omega), s1_s k_s hk6]
      exact p3_s k_s (by omega)
    · rw [zne_up (by omega), zne_up (by omega), zsame_up, e2_s]
    · rw [zne_up (by omega), zsame_up]
    · rw [zsame_up, e4_s]
    · rw [zne_up (by omega), zne_up (by omega), zne_up (by omega), s2_s a_s k_s q4_s, p4_s a_s k_s q1_s q2_s q3_s, g2 a_s k_s q2_s]
  have bb : (f3_s 102 23).toInt = 0 → bI_ (goF lw f_s (owI f_s i_s) r_s).2.1 = 0 := fun w_s => by
    rw [v23] at w_s
    unfold bI_
    split at w_s
    · exact absurd w_s (by decide)
    · rename_i c_s
      rw [if_neg c_s]
  have bc : ¬ (f3_s 102 23).toInt = 0 → bI_ (goF lw f_s (owI f_s i_s) r_s).2.1 = 1 := fun w_s => by
    rw [v23] at w_s
    unfold bI_
    split at w_s
    · rename_i c_s
      rw [if_pos c_s]
    · exact absurd rfl w_s
  refine ⟨fun c10_s => ⟨fun c11_s => fin_s 0 1 (bb c10_s).symm ?_, fun c11_s => fin_s 0 0 (bb c10_s).symm ?_⟩, fun c10_s => ⟨fun c11_s => fin_s 1 1 (bc c10_s).symm ?_, fun c11_s => fin_s 1 0 (bc c10_s).symm ?_⟩⟩
  · unfold lmI
    rw [if_neg (lame.mp c11_s)]
  · unfold lmI
    rw [if_pos (by omega)]
  · unfold lmI
    rw [if_neg (lame.mp c11_s)]
  · unfold lmI
    rw [if_pos (by omega)]
theorem pr_goes {F_s : Nat} (hk : hKn h_s) (hx : tX h_s) : wF F_s 118 (0, [some (.ref 6), some (.int x1_s), some (.int x2_s), none, none, none], [], h_s) (gI (fun v_s h1 => wF F_s 212 (0, [some (.ref 102), some (.int x1_s), some (.int x2_s)], [], h1) (gI (fun v2 h2 => v_s = v2 ∧ tX h2)))) := by
  obtain ⟨nh, ni, nr, hc_s, hh, hi_, hd_s, hz, hl⟩ := hx
  have hx : tX h_s := ⟨nh, ni, nr, hc_s, hh, hi_, hd_s, hz, hl⟩
  obtain ⟨q_s, q2_s, lw, a1_s, a2, a3, a4, a5⟩ := hl
  have hl : tLw h_s := ⟨q_s, q2_s, lw, a1_s, a2, a3, a4, a5⟩
  have hp := lawR_P a5
  have b_s := hc_s.1
  refine sp_118 (f_s := h_s.2.1) hk a1_s (by omega) a4 hp hc_s (fun w_s => ?_) (fun i_s r_s e1_s e2_s hi_s hr w_s => ?_) (fun i_s r_s e1_s e2_s hi_s hr w_s v_s f1_s g1 g2 g3_s g4 g5_s g6 => ?_)
  · refine sp_212 (f_s := h_s.2.1) hk a5 hp (tC_M hc_s) (fun _ => ⟨rfl, hx⟩) (fun i_s r_s e1_s e2_s hi_s hr _ => ?_) (fun i_s r_s e1_s e2_s hi_s hr _ => ?_)
    · exact absurd (show okG ni nr x1_s x2_s by unfold okG; omega) w_s
    · exact absurd (show okG ni nr x1_s x2_s by unfold okG; omega) w_s
  · refine sp_212 (f_s := h_s.2.1) hk a5 hp (tC_M hc_s) (fun u_s => absurd (show okG ni nr x1_s x2_s by unfold okG; omega) u_s) (fun i1_s r1_s d1_s d2_s hi1 hr1 _ f1_s g_s => ⟨rfl, tX_fr (h_s := h_s) (fun _ => rfl) (fun a_s k_s qx => g_s a_s k_s (fun w_s => (inX_no qx).2.2.2.2.1 (by omega))) hx⟩) (fun i1_s r1_s d1_s d2_s hi1 hr1 w1_s => ?_)
    have ei : i1_s = i_s := by omega
    have er : r1_s = r_s := by omega
    subst ei
    subst er
    exact absurd w1_s w_s
  · have f1X : ∀ a_s k_s, ¬ a_s = 13 → ¬ a_s = 16 → ¬ a_s = 19 → ¬ (a_s = 20 + i_s ∧ (k_s = 2 ∨ k_s = 3)) → ¬ (a_s = 73 ∧ 2 ≤ k_s ∧ k_s ≤ 4) → f1_s a_s k_s = h_s.2.1 a_s k_s := g6
    have ho : ∀ a_s k_s, 100 ≤ a_s → f1_s a_s k_s = h_s.2.1 a_s k_s := fun a_s k_s ha_s => g6 a_s k_s (by omega) (by omega) (by omega) (by omega) (by omega)
    have eo : owI f1_s i_s = owI h_s.2.1 i_s := by
      funext k_s
      unfold owI
      rw [ho 103 _ (by omega), ho 103 _ (by omega), ho 103 _ (by omega)]
    have eg : goF lw f1_s (owI f1_s i_s) r_s = goF lw h_s.2.1 (owI h_s.2.1 i_s) r_s := by
      unfold goF
      rw [eo, ho 103 _ (by omega), ho 103 _ (by omega), ho 103 _ (by omega)]
    have a5' : lawR f1_s lw := lawR_fr (ho _ _ (by omega)) (fun k_s _ => ho _ _ (by omega)) a5
    have m1_s : tM nh ni nr f1_s := tM_fr (fun k_s _ _ => ho _ _ (by omega)) (fun k_s _ => ho _ _ (by omega)) (tC_M hc_s)
    have e80 : f1_s 103 (80 + r_s) = h_s.2.1 103 (80 + r_s) := ho _ _ (by omega)
    refine sp_212 (h_s := (h_s.1, f1_s, h_s.2.2.1, h_s.2.2.2)) (f_s := f1_s) hk a5' hp m1_s (fun u_s => absurd (show okG ni nr x1_s x2_s by unfold okG; omega) u_s) (fun i1_s r1_s d1_s d2_s hi1 hr1 w1_s => ?_) (fun i1_s r1_s d1_s d2_s hi1 hr1 w1_s v2 f2_s p1_s p2_s p3_s p4_s p5_s p6_s => ?_)
    · have ei : i1_s = i_s := by omega
      have er : r1_s = r_s := by omega
      subst ei
      subst er
      rw [eo, e80] at w1_s
      exact absurd w_s w1_s
    · have ei : i1_s = i_s := by omega
      have er : r1_s = r_s := by omega
      subst ei
      subst er
      rw [eg] at p1_s p2_s p3_s p5_s
      have ev_s : v_s = v2 := Int32.toInt_inj.mp (g1.trans p1_s.symm)
      refine ⟨ev_s, tX_upI (o := (goF lw h_s.2.1 (owI h_s.2.1 i1_s) r1_s).2.2) hc_s hh hi_ hz hl (by omega) (fun k_s hk6 => ⟨?_, p2_s k_s hk6⟩) (go_B (tC_oB hc_s hi_s)) (fun k_s k2_s k4_s => ?_) (fun _ => rfl) (fun a_s k_s qx s1_s s2_s s3_s => ?_)⟩
      · show f2_s (20 + i1_s) k_s = _
        rw [p6_s _ _ (by omega) (by omega) (by omega) (by omega) (by omega)]
        exact g2 k_s hk6
      · have hd2 : h_s.2.1 73 2 = h_s.2.1 119 2 := hd_s 2 (by omega) (by omega)
        have hd3 : h_s.2.1 73 3 = h_s.2.1 119 3 := hd_s 3 (by omega) (by omega)
        have hd4 : h_s.2.1 73 4 = h_s.2.1 119 4 := hd_s 4 (by omega) (by omega)
        have q73 : ∀ j_s, f2_s 73 j_s = f1_s 73 j_s := fun j_s => p6_s 73 j_s (by omega) (by omega) (by omega) (by omega) (by omega)
        have q119 : ∀ j_s, f1_s 119 j_s = h_s.2.1 119 j_s := fun j_s => ho 119 j_s (by omega)
        show f2_s 73 k_s = f2_s 119 k_s
        have ek : k_s = 2 ∨ k_s = 3 ∨ k_s = 4 := by omega
        rcases ek with e_s | e_s | e_s
        · rw [e_s, q73, g3_s, p3_s, q119, hd2]
        · rw [e_s, q73, g4, p4_s, q119, hd3, ev_s]
        · rw [e_s, q73, g5_s, p5_s, q119, hd4]
      · show f2_s a_s k_s = h_s.2.1 a_s k_s
        have qy : (¬ a_s = 111 ∧ ¬ a_s = 112 ∧ ¬ (a_s = 102 ∧ (15 ≤ k_s ∧ k_s ≤ 19 ∨ k_s = 22 ∨ k_s = 23))) ∧ (¬ a_s = 13 ∧ ¬ a_s = 16 ∧ ¬ a_s = 19) ∧ (a_s = 20 + i1_s → k_s < 7) := by
          unfold inX inC inH inI inD inZ inW at qx
          omega
        unfold inD at s3_s
        rw [p6_s a_s k_s qy.1.1 qy.1.2.1 qy.1.2.2 s2_s (by omega)]
        exact g6 a_s k_s qy.2.1.1 qy.2.1.2.1 qy.2.1.2.2 (by omega) (by omega)
end GS
/-! What ended runs give: printed by a program (wip/fun/sg.py). -/
/-- ColdShod.head(I)I, from 0 on -/
theorem sg_93_0 {F_s : Nat} {x1_s : Int32} {h_s : zH} {K_s : Int32 → zH → Prop} (hk : hKn h_s) (t_s : (x1_s.toInt < 0 → K_s (-1) h_s) ∧ (¬ x1_s.toInt < 0 → ((5 < x1_s.toInt → K_s (-1) h_s) ∧ (¬ 5 < x1_s.toInt → (((h_s.2.1 7 6).toInt < 6 → (zix (h_s.2.1 7 6) < 6 → K_s (h_s.2.1 7 6) (h_s.1, zup (zup (zup h_s.2.1 8 (zix (h_s.2.1 7 6)) x1_s) 9 (zix (h_s.2.1 7 6)) 6) 7 6 ((h_s.2.1 7 6) + 1), h_s.2.2.1, h_s.2.2.2))) ∧ (¬ (h_s.2.1 7 6).toInt < 6 → K_s (-3) h_s)))))) : wF (F_s + 1) 93 (0, [some (.ref 6), some (.int x1_s)], [], h_s) (gI K_s) := by
  refine w_0 (pc := 0) (e_s := (1, 1, 1, 0, 0, .null, [])) (y_s := (1, [some (.ref _), some (.int _)], [.int _], _)) rfl (u_ rfl) ?_
  refine wq2 (pc := 1) (len_s := 3) rfl rfl (fun c1_s => ?_) (fun c1_s => ?_)
  · replace t_s := t_s.1 c1_s
    refine w_t (pc := 9) (e_s := (0, 1, 0, 0, 0, .int (-1), [])) (y_s := (10, [some (.ref _), some (.int _)], [.int _], _)) rfl (u_ rfl) ?_
    exact wrI (pc := 10) (len_s := 1) rfl hk t_s
  · replace t_s := t_s.2 c1_s
    refine w_t (pc := 4) (e_s := (1, 1, 1, 0, 0, .null, [])) (y_s := (5, [some (.ref _), some (.int _)], [.int _], _)) rfl (u_ rfl) ?_
    refine w_t (pc := 5) (e_s := (0, 1, 0, 0, 0, .int 5, [])) (y_s := (6, [some (.ref _), some (.int _)], [.int _, .int _], _)) rfl (u_ rfl) ?_
    refine wi5 (pc := 6) (len_s := 3) (Y := 5) rfl rfl (by decide) (fun c2_s => ?_) (fun c2_s => ?_)
    · replace t_s := t_s.1 c2_s
      refine w_t (pc := 9) (e_s := (0, 1, 0, 0, 0, .int (-1), [])) (y_s := (10, [some (.ref _), some (.int _)], [.int _], _)) rfl (u_ rfl) ?_
      exact wrI (pc := 10) (len_s := 1) rfl hk t_s
    · replace t_s := t_s.2 c2_s
      refine w_t (pc := 11) (e_s := (3, 1, 0, 0, 0, .null, [])) (y_s := (12, [some (.ref _), some (.int _)], [.ref _], _)) rfl (u_ rfl) ?_
      refine w20r (pc := 12) (len_s := 3) (q_s := 7) rfl (krq hk rfl) ?_
      refine w20 (pc := 15) (len_s := 3) rfl ?_
      refine w_t (pc := 18) (e_s := (0, 2, 0, 0, 0, .int 6, [])) (y_s := (20, [some (.ref _), some (.int _)], [.int _, .int _], _)) rfl (u_ rfl) ?_
      refine wi2 (pc := 20) (len_s := 3) (Y := 6) rfl rfl (by decide) (fun c3_s => ?_) (fun c3_s => ?_)
      · replace t_s := t_s.1 c3_s
        refine w_t (pc := 26) (e_s := (3, 1, 0, 0, 0, .null, [])) (y_s := (27, [some (.ref _), some (.int _)], [.ref _], _)) rfl (u_ rfl) ?_
        refine w20r (pc := 27) (len_s := 3) (q_s := 7) rfl (krq hk rfl) ?_
        refine w20r (pc := 30) (len_s := 3) (q_s := 8) rfl (krq hk rfl) ?_
        refine w_t (pc := 33) (e_s := (3, 1, 0, 0, 0, .null, [])) (y_s := (34, [some (.ref _), some (.int _)], [.ref _, .ref _], _)) rfl (u_ rfl) ?_
        refine w20r (pc := 34) (len_s := 3) (q_s := 7) rfl (krq hk rfl) ?_
        refine w20 (pc := 37) (len_s := 3) rfl ?_
        refine w_t (pc := 40) (e_s := (1, 1, 1, 0, 0, .null, [])) (y_s := (41, [some (.ref _), some (.int _)], [.int _, .int _, .ref _], _)) rfl (u_ rfl) ?_
        refine w25 (pc := 41) (len_s := 1) rfl (hk.1 8 0 6 rfl rfl) (fun c4_s => ?_)
        replace t_s := t_s c4_s
        refine w_t (pc := 42) (e_s := (3, 1, 0, 0, 0, .null, [])) (y_s := (43, [some (.ref _), some (.int _)], [.ref _], _)) rfl (u_ rfl) ?_
        refine w20r (pc := 43) (len_s := 3) (q_s := 7) rfl (krq hk rfl) ?_
        refine w20r (pc := 46) (len_s := 3) (q_s := 9) rfl (krq hk rfl) ?_
        refine w_t (pc := 49) (e_s := (3, 1, 0, 0, 0, .null, [])) (y_s := (50, [some (.ref _), some (.int _)], [.ref _, .ref _], _)) rfl (u_ rfl) ?_
        refine w20r (pc := 50) (len_s := 3) (q_s := 7) rfl (krq hk rfl) ?_
        refine w20 (pc := 53) (len_s := 3) rfl ?_
        refine w_t (pc := 56) (e_s := (0, 2, 0, 0, 0, .int 6, [])) (y_s := (58, [some (.ref _), some (.int _)], [.int _, .int _, .ref _], _)) rfl (u_ rfl) ?_
        refine w25 (pc := 58) (len_s := 1) rfl (hk.1 9 0 6 rfl rfl) (fun c5_s => ?_)
        refine w_t (pc := 59) (e_s := (3, 1, 0, 0, 0, .null, [])) (y_s := (60, [some (.ref _), some (.int _)], [.ref _], _)) rfl (u_ rfl) ?_
        refine w20r (pc := 60) (len_s := 3) (q_s := 7) rfl (krq hk rfl) ?_
        refine w_t (pc := 63) (e_s := (39, 1, 0, 0, 0, .null, [])) (y_s := (64, [some (.ref _), some (.int _)], [.ref _, .ref _], _)) rfl (u_ rfl) ?_
        refine w20 (pc := 64) (len_s := 3) rfl ?_
        refine w_t (pc := 67) (e_s := (40, 1, 0, 0, 0, .null, [])) (y_s := (68, [some (.ref _), some (.int _)], [.int _, .ref _, .int _], _)) rfl (u_ rfl) ?_
        refine w_t (pc := 68) (e_s := (0, 1, 0, 0, 0, .int 1, [])) (y_s := (69, [some (.ref _), some (.int _)], [.int _, .int _, .ref _, .int _], _)) rfl (u_ rfl) ?_
        refine w_t (pc := 69) (e_s := (7, 1, 0, 0, 0, .null, [])) (y_s := (70, [some (.ref _), some (.int _)], [.int (_ + _), .ref _, .int _], _)) rfl (u_ rfl) ?_
        refine w21 (pc := 70) (len_s := 3) rfl ?_
        exact wrI (pc := 73) (len_s := 1) rfl hk t_s
      · replace t_s := t_s.2 c3_s
        refine w_t (pc := 23) (e_s := (0, 2, 0, 0, 0, .int (-3), [])) (y_s := (25, [some (.ref _), some (.int _)], [.int _], _)) rfl (u_ rfl) ?_
        exact wrI (pc := 25) (len_s := 1) rfl hk t_s
/-- ColdShodModel.head(I)I, from 0 on -/
theorem sg_155_0 {F_s : Nat} {x1_s : Int32} {h_s : zH} {K_s : Int32 → zH → Prop} (hk : hKn h_s) (t_s : (x1_s.toInt < 0 → K_s (-1) h_s) ∧ (¬ x1_s.toInt < 0 → ((5 < x1_s.toInt → K_s (-1) h_s) ∧ (¬ 5 < x1_s.toInt → (((h_s.2.1 102 6).toInt = 6 → K_s (-3) h_s) ∧ (¬ (h_s.2.1 102 6).toInt = 6 → (zix (h_s.2.1 102 6) < 104 → (zix (6 + (h_s.2.1 102 6)) < 104 → K_s (((h_s.2.1 102 6) + 1) - 1) (h_s.1, zup (zup (zup h_s.2.1 103 (zix (h_s.2.1 102 6)) x1_s) 103 (zix (6 + (h_s.2.1 102 6))) 6) 102 6 ((h_s.2.1 102 6) + 1), h_s.2.2.1, h_s.2.2.2))))))))) : wF (F_s + 1) 155 (0, [some (.ref 102), some (.int x1_s)], [], h_s) (gI K_s) := by
  refine w_0 (pc := 0) (e_s := (1, 1, 1, 0, 0, .null, [])) (y_s := (1, [some (.ref _), some (.int _)], [.int _], _)) rfl (u_ rfl) ?_
  refine w_t (pc := 1) (e_s := (10, 1, 0, 0, 0, .null, [])) (y_s := (2, [some (.ref _), some (.int _)], [.long (Int32.toInt64 _)], _)) rfl (u_ rfl) ?_
  refine w_t (pc := 2) (e_s := (0, 1, 0, 0, 0, .long 0, [])) (y_s := (3, [some (.ref _), some (.int _)], [.long _, .long _], _)) rfl (u_ rfl) ?_
  refine w_t (pc := 3) (e_s := (0, 3, 0, 0, 0, .long 5, [(0, 1063)])) (y_s := (6, [some (.ref _), some (.int _)], [.long _, .long _, .long _], _)) rfl (u_ rfl) ?_
  refine wcI (pc := 6) (len_s := 3) rfl rfl (l := [some (.long _), none, some (.long _), none, some (.long _), none]) rfl ?_
  refine w_t (pc := 0) (e_s := (2, 1, 0, 0, 0, .null, [])) (y_s := (1, [some (.long _), none, some (.long _), none, some (.long _), none], [.long _], _)) rfl (u_ rfl) ?_
  refine w_t (pc := 1) (e_s := (2, 1, 2, 0, 0, .null, [])) (y_s := (2, [some (.long _), none, some (.long _), none, some (.long _), none], [.long _, .long _], _)) rfl (u_ rfl) ?_
  refine w_t (pc := 2) (e_s := (14, 1, 0, 0, 0, .null, [])) (y_s := (3, [some (.long _), none, some (.long _), none, some (.long _), none], [.int (lg_cmp _ _)], _)) rfl (u_ rfl) ?_
  refine wl2 (pc := 3) (len_s := 3) (Y := 0) rfl (Int32.toInt_toInt64 _) (by decide) (fun c1_s => ?_) (fun c1_s => ?_)
  · replace t_s := t_s.1 c1_s
    refine w_t (pc := 17) (e_s := (0, 1, 0, 0, 0, .int 0, [])) (y_s := (18, [some (.long _), none, some (.long _), none, some (.long _), none], [.int _], _)) rfl (u_ rfl) ?_
    refine wrI (pc := 18) (len_s := 1) rfl hk ?_
    show wF _ 155 (9, [some (.ref _), some (.int _)], [.int _], _) _
    refine w_t (pc := 9) (e_s := (15, 3, 14, 1, 0, .null, [])) (y_s := (12, [some (.ref _), some (.int _)], [], _)) rfl (u_ rfl) ?_
    refine w_t (pc := 12) (e_s := (0, 1, 0, 0, 0, .int (-1), [])) (y_s := (13, [some (.ref _), some (.int _)], [.int _], _)) rfl (u_ rfl) ?_
    exact wrI (pc := 13) (len_s := 1) rfl hk t_s
  · replace t_s := t_s.2 c1_s
    refine w_t (pc := 6) (e_s := (2, 1, 0, 0, 0, .null, [])) (y_s := (7, [some (.long _), none, some (.long _), none, some (.long _), none], [.long _], _)) rfl (u_ rfl) ?_
    refine w_t (pc := 7) (e_s := (2, 2, 4, 0, 0, .null, [])) (y_s := (9, [some (.long _), none, some (.long _), none, some (.long _), none], [.long _, .long _], _)) rfl (u_ rfl) ?_
    refine w_t (pc := 9) (e_s := (14, 1, 0, 0, 0, .null, [])) (y_s := (10, [some (.long _), none, some (.long _), none, some (.long _), none], [.int (lg_cmp _ _)], _)) rfl (u_ rfl) ?_
    refine wl4 (pc := 10) (len_s := 3) (Y := 5) rfl (Int32.toInt_toInt64 _) (by decide) (fun c2_s => ?_) (fun c2_s => ?_)
    · replace t_s := t_s.1 c2_s
      refine w_t (pc := 17) (e_s := (0, 1, 0, 0, 0, .int 0, [])) (y_s := (18, [some (.long _), none, some (.long _), none, some (.long _), none], [.int _], _)) rfl (u_ rfl) ?_
      refine wrI (pc := 18) (len_s := 1) rfl hk ?_
      show wF _ 155 (9, [some (.ref _), some (.int _)], [.int _], _) _
      refine w_t (pc := 9) (e_s := (15, 3, 14, 1, 0, .null, [])) (y_s := (12, [some (.ref _), some (.int _)], [], _)) rfl (u_ rfl) ?_
      refine w_t (pc := 12) (e_s := (0, 1, 0, 0, 0, .int (-1), [])) (y_s := (13, [some (.ref _), some (.int _)], [.int _], _)) rfl (u_ rfl) ?_
      exact wrI (pc := 13) (len_s := 1) rfl hk t_s
    · replace t_s := t_s.2 c2_s
      refine w_t (pc := 13) (e_s := (0, 1, 0, 0, 0, .int 1, [])) (y_s := (14, [some (.long _), none, some (.long _), none, some (.long _), none], [.int _], _)) rfl (u_ rfl) ?_
      refine w_t (pc := 14) (e_s := (17, 3, 18, 0, 0, .null, [])) (y_s := (18, [some (.long _), none, some (.long _), none, some (.long _), none], [.int _], _)) rfl (u_ rfl) ?_
      refine wrI (pc := 18) (len_s := 1) rfl hk ?_
      show wF _ 155 (9, [some (.ref _), some (.int _)], [.int _], _) _
      refine w_t (pc := 9) (e_s := (15, 3, 14, 1, 0, .null, [])) (y_s := (14, [some (.ref _), some (.int _)], [], _)) rfl (u_ rfl) ?_
      refine w_t (pc := 14) (e_s := (3, 1, 0, 0, 0, .null, [])) (y_s := (15, [some (.ref _), some (.int _)], [.ref _], _)) rfl (u_ rfl) ?_
      refine w20 (pc := 15) (len_s := 3) rfl ?_
      refine w_t (pc := 18) (e_s := (0, 2, 0, 0, 0, .int 6, [])) (y_s := (20, [some (.ref _), some (.int _)], [.int _, .int _], _)) rfl (u_ rfl) ?_
      refine wi1 (pc := 20) (len_s := 3) (Y := 6) rfl rfl (by decide) (fun c3_s => ?_) (fun c3_s => ?_)
      · replace t_s := t_s.1 c3_s
        refine w_t (pc := 23) (e_s := (0, 2, 0, 0, 0, .int (-3), [])) (y_s := (25, [some (.ref _), some (.int _)], [.int _], _)) rfl (u_ rfl) ?_
        exact wrI (pc := 25) (len_s := 1) rfl hk t_s
      · replace t_s := t_s.2 c3_s
        refine w_t (pc := 26) (e_s := (3, 1, 0, 0, 0, .null, [])) (y_s := (27, [some (.ref _), some (.int _)], [.ref _], _)) rfl (u_ rfl) ?_
        refine w20r (pc := 27) (len_s := 3) (q_s := 103) rfl (krq hk rfl) ?_
        refine w_t (pc := 30) (e_s := (3, 1, 0, 0, 0, .null, [])) (y_s := (31, [some (.ref _), some (.int _)], [.ref _, .ref _], _)) rfl (u_ rfl) ?_
        refine w20 (pc := 31) (len_s := 3) rfl ?_
        refine w_t (pc := 34) (e_s := (1, 1, 1, 0, 0, .null, [])) (y_s := (35, [some (.ref _), some (.int _)], [.int _, .int _, .ref _], _)) rfl (u_ rfl) ?_
        refine w25 (pc := 35) (len_s := 1) rfl (hk.1 103 0 104 rfl rfl) (fun c4_s => ?_)
        replace t_s := t_s c4_s
        refine w_t (pc := 36) (e_s := (3, 1, 0, 0, 0, .null, [])) (y_s := (37, [some (.ref _), some (.int _)], [.ref _], _)) rfl (u_ rfl) ?_
        refine w20r (pc := 37) (len_s := 3) (q_s := 103) rfl (krq hk rfl) ?_
        refine w_t (pc := 40) (e_s := (0, 2, 0, 0, 0, .int 6, [])) (y_s := (42, [some (.ref _), some (.int _)], [.int _, .ref _], _)) rfl (u_ rfl) ?_
        refine w_t (pc := 42) (e_s := (3, 1, 0, 0, 0, .null, [])) (y_s := (43, [some (.ref _), some (.int _)], [.ref _, .int _, .ref _], _)) rfl (u_ rfl) ?_
        refine w20 (pc := 43) (len_s := 3) rfl ?_
        refine w_t (pc := 46) (e_s := (7, 1, 0, 0, 0, .null, [])) (y_s := (47, [some (.ref _), some (.int _)], [.int (_ + _), .ref _], _)) rfl (u_ rfl) ?_
        refine w_t (pc := 47) (e_s := (0, 2, 0, 0, 0, .int 6, [])) (y_s := (49, [some (.ref _), some (.int _)], [.int _, .int _, .ref _], _)) rfl (u_ rfl) ?_
        refine w25 (pc := 49) (len_s := 1) rfl (hk.1 103 0 104 rfl rfl) (fun c5_s => ?_)
        replace t_s := t_s c5_s
        refine w_t (pc := 50) (e_s := (3, 1, 0, 0, 0, .null, [])) (y_s := (51, [some (.ref _), some (.int _)], [.ref _], _)) rfl (u_ rfl) ?_
        refine w_t (pc := 51) (e_s := (39, 1, 0, 0, 0, .null, [])) (y_s := (52, [some (.ref _), some (.int _)], [.ref _, .ref _], _)) rfl (u_ rfl) ?_
        refine w20 (pc := 52) (len_s := 3) rfl ?_
        refine w_t (pc := 55) (e_s := (0, 1, 0, 0, 0, .int 1, [])) (y_s := (56, [some (.ref _), some (.int _)], [.int _, .int _, .ref _], _)) rfl (u_ rfl) ?_
        refine w_t (pc := 56) (e_s := (7, 1, 0, 0, 0, .null, [])) (y_s := (57, [some (.ref _), some (.int _)], [.int (_ + _), .ref _], _)) rfl (u_ rfl) ?_
        refine w21 (pc := 57) (len_s := 3) rfl ?_
        refine w_t (pc := 60) (e_s := (3, 1, 0, 0, 0, .null, [])) (y_s := (61, [some (.ref _), some (.int _)], [.ref _], _)) rfl (u_ rfl) ?_
        refine w20 (pc := 61) (len_s := 3) rfl ?_
        refine w_t (pc := 64) (e_s := (0, 1, 0, 0, 0, .int 1, [])) (y_s := (65, [some (.ref _), some (.int _)], [.int _, .int _], _)) rfl (u_ rfl) ?_
        refine w_t (pc := 65) (e_s := (7, 1, 0, 1, 0, .null, [])) (y_s := (66, [some (.ref _), some (.int _)], [.int (_ - _)], _)) rfl (u_ rfl) ?_
        exact wrI (pc := 66) (len_s := 1) rfl hk t_s
/-- ColdShod.idea(II)I, from 0 on -/
theorem sg_94_0 {F_s : Nat} {x1_s : Int32} {x2_s : Int32} {h_s : zH} {K_s : Int32 → zH → Prop} (hk : hKn h_s) (t_s : (x1_s.toInt < 0 → K_s (-1) h_s) ∧ (¬ x1_s.toInt < 0 → ((3 < x1_s.toInt → K_s (-1) h_s) ∧ (¬ 3 < x1_s.toInt → ((x2_s.toInt < 0 → K_s (-1) h_s) ∧ (¬ x2_s.toInt < 0 → ((5 < x2_s.toInt → K_s (-1) h_s) ∧ (¬ 5 < x2_s.toInt → (((h_s.2.1 7 7).toInt < 8 → (zix (h_s.2.1 7 7) < 8 → K_s ((zup (zup h_s.2.1 (20 + (zix (h_s.2.1 7 7))) 0 x1_s) (20 + (zix (h_s.2.1 7 7))) 1 x2_s) 7 7) (h_s.1, zup (zup (zup h_s.2.1 (20 + (zix (h_s.2.1 7 7))) 0 x1_s) (20 + (zix (h_s.2.1 7 7))) 1 x2_s) 7 7 (((zup (zup h_s.2.1 (20 + (zix (h_s.2.1 7 7))) 0 x1_s) (20 + (zix (h_s.2.1 7 7))) 1 x2_s) 7 7) + 1), h_s.2.2.1, h_s.2.2.2))) ∧ (¬ (h_s.2.1 7 7).toInt < 8 → K_s (-3) h_s)))))))))) : wF (F_s + 1) 94 (0, [some (.ref 6), some (.int x1_s), some (.int x2_s), none], [], h_s) (gI K_s) := by
  refine w_0 (pc := 0) (e_s := (1, 1, 1, 0, 0, .null, [])) (y_s := (1, [some (.ref _), some (.int _), some (.int _), none], [.int _], _)) rfl (u_ rfl) ?_
  refine wq2 (pc := 1) (len_s := 3) rfl rfl (fun c1_s => ?_) (fun c1_s => ?_)
  · replace t_s := t_s.1 c1_s
    refine w_t (pc := 18) (e_s := (0, 1, 0, 0, 0, .int (-1), [])) (y_s := (19, [some (.ref _), some (.int _), some (.int _), none], [.int _], _)) rfl (u_ rfl) ?_
    exact wrI (pc := 19) (len_s := 1) rfl hk t_s
  · replace t_s := t_s.2 c1_s
    refine w_t (pc := 4) (e_s := (1, 1, 1, 0, 0, .null, [])) (y_s := (5, [some (.ref _), some (.int _), some (.int _), none], [.int _], _)) rfl (u_ rfl) ?_
    refine w_t (pc := 5) (e_s := (0, 1, 0, 0, 0, .int 3, [])) (y_s := (6, [some (.ref _), some (.int _), some (.int _), none], [.int _, .int _], _)) rfl (u_ rfl) ?_
    refine wi4 (pc := 6) (len_s := 3) (Y := 3) rfl rfl (by decide) (fun c2_s => ?_) (fun c2_s => ?_)
    · replace t_s := t_s.1 c2_s
      refine w_t (pc := 18) (e_s := (0, 1, 0, 0, 0, .int (-1), [])) (y_s := (19, [some (.ref _), some (.int _), some (.int _), none], [.int _], _)) rfl (u_ rfl) ?_
      exact wrI (pc := 19) (len_s := 1) rfl hk t_s
    · replace t_s := t_s.2 c2_s
      refine w_t (pc := 9) (e_s := (1, 1, 2, 0, 0, .null, [])) (y_s := (10, [some (.ref _), some (.int _), some (.int _), none], [.int _], _)) rfl (u_ rfl) ?_
      refine wq2 (pc := 10) (len_s := 3) rfl rfl (fun c3_s => ?_) (fun c3_s => ?_)
      · replace t_s := t_s.1 c3_s
        refine w_t (pc := 18) (e_s := (0, 1, 0, 0, 0, .int (-1), [])) (y_s := (19, [some (.ref _), some (.int _), some (.int _), none], [.int _], _)) rfl (u_ rfl) ?_
        exact wrI (pc := 19) (len_s := 1) rfl hk t_s
      · replace t_s := t_s.2 c3_s
        refine w_t (pc := 13) (e_s := (1, 1, 2, 0, 0, .null, [])) (y_s := (14, [some (.ref _), some (.int _), some (.int _), none], [.int _], _)) rfl (u_ rfl) ?_
        refine w_t (pc := 14) (e_s := (0, 1, 0, 0, 0, .int 5, [])) (y_s := (15, [some (.ref _), some (.int _), some (.int _), none], [.int _, .int _], _)) rfl (u_ rfl) ?_
        refine wi5 (pc := 15) (len_s := 3) (Y := 5) rfl rfl (by decide) (fun c4_s => ?_) (fun c4_s => ?_)
        · replace t_s := t_s.1 c4_s
          refine w_t (pc := 18) (e_s := (0, 1, 0, 0, 0, .int (-1), [])) (y_s := (19, [some (.ref _), some (.int _), some (.int _), none], [.int _], _)) rfl (u_ rfl) ?_
          exact wrI (pc := 19) (len_s := 1) rfl hk t_s
        · replace t_s := t_s.2 c4_s
          refine w_t (pc := 20) (e_s := (3, 1, 0, 0, 0, .null, [])) (y_s := (21, [some (.ref _), some (.int _), some (.int _), none], [.ref _], _)) rfl (u_ rfl) ?_
          refine w20r (pc := 21) (len_s := 3) (q_s := 7) rfl (krq hk rfl) ?_
          refine w20 (pc := 24) (len_s := 3) rfl ?_
          refine w_t (pc := 27) (e_s := (0, 2, 0, 0, 0, .int 8, [])) (y_s := (29, [some (.ref _), some (.int _), some (.int _), none], [.int _, .int _], _)) rfl (u_ rfl) ?_
          refine wi2 (pc := 29) (len_s := 3) (Y := 8) rfl rfl (by decide) (fun c5_s => ?_) (fun c5_s => ?_)
          · replace t_s := t_s.1 c5_s
            refine w_t (pc := 35) (e_s := (3, 1, 0, 0, 0, .null, [])) (y_s := (36, [some (.ref _), some (.int _), some (.int _), none], [.ref _], _)) rfl (u_ rfl) ?_
            refine w20r (pc := 36) (len_s := 3) (q_s := 7) rfl (krq hk rfl) ?_
            refine w20r (pc := 39) (len_s := 3) (q_s := 10) rfl (krq hk rfl) ?_
            refine w_t (pc := 42) (e_s := (3, 1, 0, 0, 0, .null, [])) (y_s := (43, [some (.ref _), some (.int _), some (.int _), none], [.ref _, .ref _], _)) rfl (u_ rfl) ?_
            refine w20r (pc := 43) (len_s := 3) (q_s := 7) rfl (krq hk rfl) ?_
            refine w20 (pc := 46) (len_s := 3) rfl ?_
            refine w24 (g_s := fun j_ => 20 + j_) (pc := 49) (len_s := 1) hk rfl (hk.1 10 2 8 rfl rfl) kg10 (fun c6_s => ?_)
            replace t_s := t_s c6_s
            refine w_t (pc := 50) (e_s := (6, 1, 3, 0, 0, .null, [])) (y_s := (51, [some (.ref _), some (.int _), some (.int _), some (.ref _)], [], _)) rfl (u_ rfl) ?_
            refine w_t (pc := 51) (e_s := (3, 1, 3, 0, 0, .null, [])) (y_s := (52, [some (.ref _), some (.int _), some (.int _), some (.ref _)], [.ref _], _)) rfl (u_ rfl) ?_
            refine w_t (pc := 52) (e_s := (1, 1, 1, 0, 0, .null, [])) (y_s := (53, [some (.ref _), some (.int _), some (.int _), some (.ref _)], [.int _, .ref _], _)) rfl (u_ rfl) ?_
            refine w21 (pc := 53) (len_s := 3) rfl ?_
            refine w_t (pc := 56) (e_s := (3, 1, 3, 0, 0, .null, [])) (y_s := (57, [some (.ref _), some (.int _), some (.int _), some (.ref _)], [.ref _], _)) rfl (u_ rfl) ?_
            refine w_t (pc := 57) (e_s := (1, 1, 2, 0, 0, .null, [])) (y_s := (58, [some (.ref _), some (.int _), some (.int _), some (.ref _)], [.int _, .ref _], _)) rfl (u_ rfl) ?_
            refine w21 (pc := 58) (len_s := 3) rfl ?_
            refine w_t (pc := 61) (e_s := (3, 1, 0, 0, 0, .null, [])) (y_s := (62, [some (.ref _), some (.int _), some (.int _), some (.ref _)], [.ref _], _)) rfl (u_ rfl) ?_
            refine w20r (pc := 62) (len_s := 3) (q_s := 7) rfl (krq hk rfl) ?_
            refine w_t (pc := 65) (e_s := (39, 1, 0, 0, 0, .null, [])) (y_s := (66, [some (.ref _), some (.int _), some (.int _), some (.ref _)], [.ref _, .ref _], _)) rfl (u_ rfl) ?_
            refine w20 (pc := 66) (len_s := 3) rfl ?_
            refine w_t (pc := 69) (e_s := (40, 1, 0, 0, 0, .null, [])) (y_s := (70, [some (.ref _), some (.int _), some (.int _), some (.ref _)], [.int _, .ref _, .int _], _)) rfl (u_ rfl) ?_
            refine w_t (pc := 70) (e_s := (0, 1, 0, 0, 0, .int 1, [])) (y_s := (71, [some (.ref _), some (.int _), some (.int _), some (.ref _)], [.int _, .int _, .ref _, .int _], _)) rfl (u_ rfl) ?_
            refine w_t (pc := 71) (e_s := (7, 1, 0, 0, 0, .null, [])) (y_s := (72, [some (.ref _), some (.int _), some (.int _), some (.ref _)], [.int (_ + _), .ref _, .int _], _)) rfl (u_ rfl) ?_
            refine w21 (pc := 72) (len_s := 3) rfl ?_
            exact wrI (pc := 75) (len_s := 1) rfl hk t_s
          · replace t_s := t_s.2 c5_s
            refine w_t (pc := 32) (e_s := (0, 2, 0, 0, 0, .int (-3), [])) (y_s := (34, [some (.ref _), some (.int _), some (.int _), none], [.int _], _)) rfl (u_ rfl) ?_
            exact wrI (pc := 34) (len_s := 1) rfl hk t_s
/-- ColdShodModel.idea(II)I, from 0 on -/
theorem sg_156_0 {F_s : Nat} {x1_s : Int32} {x2_s : Int32} {h_s : zH} {K_s : Int32 → zH → Prop} (hk : hKn h_s) (t_s : (x1_s.toInt < 0 → K_s (-1) h_s) ∧ (¬ x1_s.toInt < 0 → ((3 < x1_s.toInt → K_s (-1) h_s) ∧ (¬ 3 < x1_s.toInt → ((x2_s.toInt < 0 → K_s (-1) h_s) ∧ (¬ x2_s.toInt < 0 → ((5 < x2_s.toInt → K_s (-1) h_s) ∧ (¬ 5 < x2_s.toInt → (((h_s.2.1 102 7).toInt = 8 → K_s (-3) h_s) ∧ (¬ (h_s.2.1 102 7).toInt = 8 → (zix (12 + (h_s.2.1 102 7)) < 104 → (zix (20 + (h_s.2.1 102 7)) < 104 → (zix (60 + (h_s.2.1 102 7)) < 104 → K_s (((h_s.2.1 102 7) + 1) - 1) (h_s.1, zup (zup (zup (zup h_s.2.1 103 (zix (12 + (h_s.2.1 102 7))) x1_s) 103 (zix (20 + (h_s.2.1 102 7))) x2_s) 103 (zix (60 + (h_s.2.1 102 7))) (-1)) 102 7 ((h_s.2.1 102 7) + 1), h_s.2.2.1, h_s.2.2.2)))))))))))))) : wF (F_s + 1) 156 (0, [some (.ref 102), some (.int x1_s), some (.int x2_s)], [], h_s) (gI K_s) := by
  refine w_0 (pc := 0) (e_s := (1, 1, 1, 0, 0, .null, [])) (y_s := (1, [some (.ref _), some (.int _), some (.int _)], [.int _], _)) rfl (u_ rfl) ?_
  refine w_t (pc := 1) (e_s := (10, 1, 0, 0, 0, .null, [])) (y_s := (2, [some (.ref _), some (.int _), some (.int _)], [.long (Int32.toInt64 _)], _)) rfl (u_ rfl) ?_
  refine w_t (pc := 2) (e_s := (0, 1, 0, 0, 0, .long 0, [])) (y_s := (3, [some (.ref _), some (.int _), some (.int _)], [.long _, .long _], _)) rfl (u_ rfl) ?_
  refine w_t (pc := 3) (e_s := (0, 3, 0, 0, 0, .long 3, [(0, 1064)])) (y_s := (6, [some (.ref _), some (.int _), some (.int _)], [.long _, .long _, .long _], _)) rfl (u_ rfl) ?_
  refine wcI (pc := 6) (len_s := 3) rfl rfl (l := [some (.long _), none, some (.long _), none, some (.long _), none]) rfl ?_
  refine w_t (pc := 0) (e_s := (2, 1, 0, 0, 0, .null, [])) (y_s := (1, [some (.long _), none, some (.long _), none, some (.long _), none], [.long _], _)) rfl (u_ rfl) ?_
  refine w_t (pc := 1) (e_s := (2, 1, 2, 0, 0, .null, [])) (y_s := (2, [some (.long _), none, some (.long _), none, some (.long _), none], [.long _, .long _], _)) rfl (u_ rfl) ?_
  refine w_t (pc := 2) (e_s := (14, 1, 0, 0, 0, .null, [])) (y_s := (3, [some (.long _), none, some (.long _), none, some (.long _), none], [.int (lg_cmp _ _)], _)) rfl (u_ rfl) ?_
  refine wl2 (pc := 3) (len_s := 3) (Y := 0) rfl (Int32.toInt_toInt64 _) (by decide) (fun c1_s => ?_) (fun c1_s => ?_)
  · replace t_s := t_s.1 c1_s
    refine w_t (pc := 17) (e_s := (0, 1, 0, 0, 0, .int 0, [])) (y_s := (18, [some (.long _), none, some (.long _), none, some (.long _), none], [.int _], _)) rfl (u_ rfl) ?_
    refine wrI (pc := 18) (len_s := 1) rfl hk ?_
    show wF _ 156 (9, [some (.ref _), some (.int _), some (.int _)], [.int _], _) _
    refine w_t (pc := 9) (e_s := (15, 3, 24, 0, 0, .null, [])) (y_s := (24, [some (.ref _), some (.int _), some (.int _)], [], _)) rfl (u_ rfl) ?_
    refine w_t (pc := 24) (e_s := (0, 1, 0, 0, 0, .int (-1), [])) (y_s := (25, [some (.ref _), some (.int _), some (.int _)], [.int _], _)) rfl (u_ rfl) ?_
    exact wrI (pc := 25) (len_s := 1) rfl hk t_s
  · replace t_s := t_s.2 c1_s
    refine w_t (pc := 6) (e_s := (2, 1, 0, 0, 0, .null, [])) (y_s := (7, [some (.long _), none, some (.long _), none, some (.long _), none], [.long _], _)) rfl (u_ rfl) ?_
    refine w_t (pc := 7) (e_s := (2, 2, 4, 0, 0, .null, [])) (y_s := (9, [some (.long _), none, some (.long _), none, some (.long _), none], [.long _, .long _], _)) rfl (u_ rfl) ?_
    refine w_t (pc := 9) (e_s := (14, 1, 0, 0, 0, .null, [])) (y_s := (10, [some (.long _), none, some (.long _), none, some (.long _), none], [.int (lg_cmp _ _)], _)) rfl (u_ rfl) ?_
    refine wl4 (pc := 10) (len_s := 3) (Y := 3) rfl (Int32.toInt_toInt64 _) (by decide) (fun c2_s => ?_) (fun c2_s => ?_)
    · replace t_s := t_s.1 c2_s
      refine w_t (pc := 17) (e_s := (0, 1, 0, 0, 0, .int 0, [])) (y_s := (18, [some (.long _), none, some (.long _), none, some (.long _), none], [.int _], _)) rfl (u_ rfl) ?_
      refine wrI (pc := 18) (len_s := 1) rfl hk ?_
      show wF _ 156 (9, [some (.ref _), some (.int _), some (.int _)], [.int _], _) _
      refine w_t (pc := 9) (e_s := (15, 3, 24, 0, 0, .null, [])) (y_s := (24, [some (.ref _), some (.int _), some (.int _)], [], _)) rfl (u_ rfl) ?_
      refine w_t (pc := 24) (e_s := (0, 1, 0, 0, 0, .int (-1), [])) (y_s := (25, [some (.ref _), some (.int _), some (.int _)], [.int _], _)) rfl (u_ rfl) ?_
      exact wrI (pc := 25) (len_s := 1) rfl hk t_s
    · replace t_s := t_s.2 c2_s
      refine w_t (pc := 13) (e_s := (0, 1, 0, 0, 0, .int 1, [])) (y_s := (14, [some (.long _), none, some (.long _), none, some (.long _), none], [.int _], _)) rfl (u_ rfl) ?_
      refine w_t (pc := 14) (e_s := (17, 3, 18, 0, 0, .null, [])) (y_s := (18, [some (.long _), none, some (.long _), none, some (.long _), none], [.int _], _)) rfl (u_ rfl) ?_
      refine wrI (pc := 18) (len_s := 1) rfl hk ?_
      show wF _ 156 (9, [some (.ref _), some (.int _), some (.int _)], [.int _], _) _
      refine w_t (pc := 9) (e_s := (15, 3, 24, 0, 0, .null, [])) (y_s := (12, [some (.ref _), some (.int _), some (.int _)], [], _)) rfl (u_ rfl) ?_
      refine w_t (pc := 12) (e_s := (1, 1, 2, 0, 0, .null, [])) (y_s := (13, [some (.ref _), some (.int _), some (.int _)], [.int _], _)) rfl (u_ rfl) ?_
      refine w_t (pc := 13) (e_s := (10, 1, 0, 0, 0, .null, [])) (y_s := (14, [some (.ref _), some (.int _), some (.int _)], [.long (Int32.toInt64 _)], _)) rfl (u_ rfl) ?_
      refine w_t (pc := 14) (e_s := (0, 1, 0, 0, 0, .long 0, [])) (y_s := (15, [some (.ref _), some (.int _), some (.int _)], [.long _, .long _], _)) rfl (u_ rfl) ?_
      refine w_t (pc := 15) (e_s := (0, 3, 0, 0, 0, .long 5, [(0, 1063)])) (y_s := (18, [some (.ref _), some (.int _), some (.int _)], [.long _, .long _, .long _], _)) rfl (u_ rfl) ?_
      refine wcI (pc := 18) (len_s := 3) rfl rfl (l := [some (.long _), none, some (.long _), none, some (.long _), none]) rfl ?_
      refine w_t (pc := 0) (e_s := (2, 1, 0, 0, 0, .null, [])) (y_s := (1, [some (.long _), none, some (.long _), none, some (.long _), none], [.long _], _)) rfl (u_ rfl) ?_
      refine w_t (pc := 1) (e_s := (2, 1, 2, 0, 0, .null, [])) (y_s := (2, [some (.long _), none, some (.long _), none, some (.long _), none], [.long _, .long _], _)) rfl (u_ rfl) ?_
      refine w_t (pc := 2) (e_s := (14, 1, 0, 0, 0, .null, [])) (y_s := (3, [some (.long _), none, some (.long _), none, some (.long _), none], [.int (lg_cmp _ _)], _)) rfl (u_ rfl) ?_
      refine wl2 (pc := 3) (len_s := 3) (Y := 0) rfl (Int32.toInt_toInt64 _) (by decide) (fun c3_s => ?_) (fun c3_s => ?_)
      · replace t_s := t_s.1 c3_s
        refine w_t (pc := 17) (e_s := (0, 1, 0, 0, 0, .int 0, [])) (y_s := (18, [some (.long _), none, some (.long _), none, some (.long _), none], [.int _], _)) rfl (u_ rfl) ?_
        refine wrI (pc := 18) (len_s := 1) rfl hk ?_
        show wF _ 156 (21, [some (.ref _), some (.int _), some (.int _)], [.int _], _) _
        refine w_t (pc := 21) (e_s := (15, 3, 26, 1, 0, .null, [])) (y_s := (24, [some (.ref _), some (.int _), some (.int _)], [], _)) rfl (u_ rfl) ?_
        refine w_t (pc := 24) (e_s := (0, 1, 0, 0, 0, .int (-1), [])) (y_s := (25, [some (.ref _), some (.int _), some (.int _)], [.int _], _)) rfl (u_ rfl) ?_
        exact wrI (pc := 25) (len_s := 1) rfl hk t_s
      · replace t_s := t_s.2 c3_s
        refine w_t (pc := 6) (e_s := (2, 1, 0, 0, 0, .null, [])) (y_s := (7, [some (.long _), none, some (.long _), none, some (.long _), none], [.long _], _)) rfl (u_ rfl) ?_
        refine w_t (pc := 7) (e_s := (2, 2, 4, 0, 0, .null, [])) (y_s := (9, [some (.long _), none, some (.long _), none, some (.long _), none], [.long _, .long _], _)) rfl (u_ rfl) ?_
        refine w_t (pc := 9) (e_s := (14, 1, 0, 0, 0, .null, [])) (y_s := (10, [some (.long _), none, some (.long _), none, some (.long _), none], [.int (lg_cmp _ _)], _)) rfl (u_ rfl) ?_
        refine wl4 (pc := 10) (len_s := 3) (Y := 5) rfl (Int32.toInt_toInt64 _) (by decide) (fun c4_s => ?_) (fun c4_s => ?_)
        · replace t_s := t_s.1 c4_s
          refine w_t (pc := 17) (e_s := (0, 1, 0, 0, 0, .int 0, [])) (y_s := (18, [some (.long _), none, some (.long _), none, some (.long _), none], [.int _], _)) rfl (u_ rfl) ?_
          refine wrI (pc := 18) (len_s := 1) rfl hk ?_
          show wF _ 156 (21, [some (.ref _), some (.int _), some (.int _)], [.int _], _) _
          refine w_t (pc := 21) (e_s := (15, 3, 26, 1, 0, .null, [])) (y_s := (24, [some (.ref _), some (.int _), some (.int _)], [], _)) rfl (u_ rfl) ?_
          refine w_t (pc := 24) (e_s := (0, 1, 0, 0, 0, .int (-1), [])) (y_s := (25, [some (.ref _), some (.int _), some (.int _)], [.int _], _)) rfl (u_ rfl) ?_
          exact wrI (pc := 25) (len_s := 1) rfl hk t_s
        · replace t_s := t_s.2 c4_s
          refine w_t (pc := 13) (e_s := (0, 1, 0, 0, 0, .int 1, [])) (y_s := (14, [some (.long _), none, some (.long _), none, some (.long _), none], [.int _], _)) rfl (u_ rfl) ?_
          refine w_t (pc := 14) (e_s := (17, 3, 18, 0, 0, .null, [])) (y_s := (18, [some (.long _), none, some (.long _), none, some (.long _), none], [.int _], _)) rfl (u_ rfl) ?_
          refine wrI (pc := 18) (len_s := 1) rfl hk ?_
          show wF _ 156 (21, [some (.ref _), some (.int _), some (.int _)], [.int _], _) _
          refine w_t (pc := 21) (e_s := (15, 3, 26, 1, 0, .null, [])) (y_s := (26, [some (.ref _), some (.int _), some (.int _)], [], _)) rfl (u_ rfl) ?_
          refine w_t (pc := 26) (e_s := (3, 1, 0, 0, 0, .null, [])) (y_s := (27, [some (.ref _), some (.int _), some (.int _)], [.ref _], _)) rfl (u_ rfl) ?_
          refine w20 (pc := 27) (len_s := 3) rfl ?_
          refine w_t (pc := 30) (e_s := (0, 2, 0, 0, 0, .int 8, [])) (y_s := (32, [some (.ref _), some (.int _), some (.int _)], [.int _, .int _], _)) rfl (u_ rfl) ?_
          refine wi1 (pc := 32) (len_s := 3) (Y := 8) rfl rfl (by decide) (fun c5_s => ?_) (fun c5_s => ?_)
          · replace t_s := t_s.1 c5_s
            refine w_t (pc := 35) (e_s := (0, 2, 0, 0, 0, .int (-3), [])) (y_s := (37, [some (.ref _), some (.int _), some (.int _)], [.int _], _)) rfl (u_ rfl) ?_
            exact wrI (pc := 37) (len_s := 1) rfl hk t_s
          · replace t_s := t_s.2 c5_s
            refine w_t (pc := 38) (e_s := (3, 1, 0, 0, 0, .null, [])) (y_s := (39, [some (.ref _), some (.int _), some (.int _)], [.ref _], _)) rfl (u_ rfl) ?_
            refine w20r (pc := 39) (len_s := 3) (q_s := 103) rfl (krq hk rfl) ?_
            refine w_t (pc := 42) (e_s := (0, 2, 0, 0, 0, .int 12, [])) (y_s := (44, [some (.ref _), some (.int _), some (.int _)], [.int _, .ref _], _)) rfl (u_ rfl) ?_
            refine w_t (pc := 44) (e_s := (3, 1, 0, 0, 0, .null, [])) (y_s := (45, [some (.ref _), some (.int _), some (.int _)], [.ref _, .int _, .ref _], _)) rfl (u_ rfl) ?_
            refine w20 (pc := 45) (len_s := 3) rfl ?_
            refine w_t (pc := 48) (e_s := (7, 1, 0, 0, 0, .null, [])) (y_s := (49, [some (.ref _), some (.int _), some (.int _)], [.int (_ + _), .ref _], _)) rfl (u_ rfl) ?_
            refine w_t (pc := 49) (e_s := (1, 1, 1, 0, 0, .null, [])) (y_s := (50, [some (.ref _), some (.int _), some (.int _)], [.int _, .int _, .ref _], _)) rfl (u_ rfl) ?_
            refine w25 (pc := 50) (len_s := 1) rfl (hk.1 103 0 104 rfl rfl) (fun c6_s => ?_)
            replace t_s := t_s c6_s
            refine w_t (pc := 51) (e_s := (3, 1, 0, 0, 0, .null, [])) (y_s := (52, [some (.ref _), some (.int _), some (.int _)], [.ref _], _)) rfl (u_ rfl) ?_
            refine w20r (pc := 52) (len_s := 3) (q_s := 103) rfl (krq hk rfl) ?_
            refine w_t (pc := 55) (e_s := (0, 2, 0, 0, 0, .int 20, [])) (y_s := (57, [some (.ref _), some (.int _), some (.int _)], [.int _, .ref _], _)) rfl (u_ rfl) ?_
            refine w_t (pc := 57) (e_s := (3, 1, 0, 0, 0, .null, [])) (y_s := (58, [some (.ref _), some (.int _), some (.int _)], [.ref _, .int _, .ref _], _)) rfl (u_ rfl) ?_
            refine w20 (pc := 58) (len_s := 3) rfl ?_
            refine w_t (pc := 61) (e_s := (7, 1, 0, 0, 0, .null, [])) (y_s := (62, [some (.ref _), some (.int _), some (.int _)], [.int (_ + _), .ref _], _)) rfl (u_ rfl) ?_
            refine w_t (pc := 62) (e_s := (1, 1, 2, 0, 0, .null, [])) (y_s := (63, [some (.ref _), some (.int _), some (.int _)], [.int _, .int _, .ref _], _)) rfl (u_ rfl) ?_
            refine w25 (pc := 63) (len_s := 1) rfl (hk.1 103 0 104 rfl rfl) (fun c7_s => ?_)
            replace t_s := t_s c7_s
            refine w_t (pc := 64) (e_s := (3, 1, 0, 0, 0, .null, [])) (y_s := (65, [some (.ref _), some (.int _), some (.int _)], [.ref _], _)) rfl (u_ rfl) ?_
            refine w20r (pc := 65) (len_s := 3) (q_s := 103) rfl (krq hk rfl) ?_
            refine w_t (pc := 68) (e_s := (0, 2, 0, 0, 0, .int 60, [])) (y_s := (70, [some (.ref _), some (.int _), some (.int _)], [.int _, .ref _], _)) rfl (u_ rfl) ?_
            refine w_t (pc := 70) (e_s := (3, 1, 0, 0, 0, .null, [])) (y_s := (71, [some (.ref _), some (.int _), some (.int _)], [.ref _, .int _, .ref _], _)) rfl (u_ rfl) ?_
            refine w20 (pc := 71) (len_s := 3) rfl ?_
            refine w_t (pc := 74) (e_s := (7, 1, 0, 0, 0, .null, [])) (y_s := (75, [some (.ref _), some (.int _), some (.int _)], [.int (_ + _), .ref _], _)) rfl (u_ rfl) ?_
            refine w_t (pc := 75) (e_s := (0, 1, 0, 0, 0, .int (-1), [])) (y_s := (76, [some (.ref _), some (.int _), some (.int _)], [.int _, .int _, .ref _], _)) rfl (u_ rfl) ?_
            refine w25 (pc := 76) (len_s := 1) rfl (hk.1 103 0 104 rfl rfl) (fun c8_s => ?_)
            replace t_s := t_s c8_s
            refine w_t (pc := 77) (e_s := (3, 1, 0, 0, 0, .null, [])) (y_s := (78, [some (.ref _), some (.int _), some (.int _)], [.ref _], _)) rfl (u_ rfl) ?_
            refine w_t (pc := 78) (e_s := (39, 1, 0, 0, 0, .null, [])) (y_s := (79, [some (.ref _), some (.int _), some (.int _)], [.ref _, .ref _], _)) rfl (u_ rfl) ?_
            refine w20 (pc := 79) (len_s := 3) rfl ?_
            refine w_t (pc := 82) (e_s := (0, 1, 0, 0, 0, .int 1, [])) (y_s := (83, [some (.ref _), some (.int _), some (.int _)], [.int _, .int _, .ref _], _)) rfl (u_ rfl) ?_
            refine w_t (pc := 83) (e_s := (7, 1, 0, 0, 0, .null, [])) (y_s := (84, [some (.ref _), some (.int _), some (.int _)], [.int (_ + _), .ref _], _)) rfl (u_ rfl) ?_
            refine w21 (pc := 84) (len_s := 3) rfl ?_
            refine w_t (pc := 87) (e_s := (3, 1, 0, 0, 0, .null, [])) (y_s := (88, [some (.ref _), some (.int _), some (.int _)], [.ref _], _)) rfl (u_ rfl) ?_
            refine w20 (pc := 88) (len_s := 3) rfl ?_
            refine w_t (pc := 91) (e_s := (0, 1, 0, 0, 0, .int 1, [])) (y_s := (92, [some (.ref _), some (.int _), some (.int _)], [.int _, .int _], _)) rfl (u_ rfl) ?_
            refine w_t (pc := 92) (e_s := (7, 1, 0, 1, 0, .null, [])) (y_s := (93, [some (.ref _), some (.int _), some (.int _)], [.int (_ - _)], _)) rfl (u_ rfl) ?_
            exact wrI (pc := 93) (len_s := 1) rfl hk t_s
/-- ColdShod$Idea.become(LColdShod$Idea;)V, from 0 on -/
theorem sg_35_0 {F_s : Nat} {d_s e_s : Nat} {h_s : zH} {K_s : zH → Prop} (hk : hKn h_s) (t_s : K_s (h_s.1, zup (zup (zup (zup (zup (zup (zup h_s.2.1 d_s 0 (h_s.2.1 e_s 0)) d_s 4 ((zup h_s.2.1 d_s 0 (h_s.2.1 e_s 0)) e_s 4)) d_s 1 ((zup (zup h_s.2.1 d_s 0 (h_s.2.1 e_s 0)) d_s 4 ((zup h_s.2.1 d_s 0 (h_s.2.1 e_s 0)) e_s 4)) e_s 1)) d_s 2 ((zup (zup (zup h_s.2.1 d_s 0 (h_s.2.1 e_s 0)) d_s 4 ((zup h_s.2.1 d_s 0 (h_s.2.1 e_s 0)) e_s 4)) d_s 1 ((zup (zup h_s.2.1 d_s 0 (h_s.2.1 e_s 0)) d_s 4 ((zup h_s.2.1 d_s 0 (h_s.2.1 e_s 0)) e_s 4)) e_s 1)) e_s 2)) d_s 3 ((zup (zup (zup (zup h_s.2.1 d_s 0 (h_s.2.1 e_s 0)) d_s 4 ((zup h_s.2.1 d_s 0 (h_s.2.1 e_s 0)) e_s 4)) d_s 1 ((zup (zup h_s.2.1 d_s 0 (h_s.2.1 e_s 0)) d_s 4 ((zup h_s.2.1 d_s 0 (h_s.2.1 e_s 0)) e_s 4)) e_s 1)) d_s 2 ((zup (zup (zup h_s.2.1 d_s 0 (h_s.2.1 e_s 0)) d_s 4 ((zup h_s.2.1 d_s 0 (h_s.2.1 e_s 0)) e_s 4)) d_s 1 ((zup (zup h_s.2.1 d_s 0 (h_s.2.1 e_s 0)) d_s 4 ((zup h_s.2.1 d_s 0 (h_s.2.1 e_s 0)) e_s 4)) e_s 1)) e_s 2)) e_s 3)) d_s 5 ((zup (zup (zup (zup (zup h_s.2.1 d_s 0 (h_s.2.1 e_s 0)) d_s 4 ((zup h_s.2.1 d_s 0 (h_s.2.1 e_s 0)) e_s 4)) d_s 1 ((zup (zup h_s.2.1 d_s 0 (h_s.2.1 e_s 0)) d_s 4 ((zup h_s.2.1 d_s 0 (h_s.2.1 e_s 0)) e_s 4)) e_s 1)) d_s 2 ((zup (zup (zup h_s.2.1 d_s 0 (h_s.2.1 e_s 0)) d_s 4 ((zup h_s.2.1 d_s 0 (h_s.2.1 e_s 0)) e_s 4)) d_s 1 ((zup (zup h_s.2.1 d_s 0 (h_s.2.1 e_s 0)) d_s 4 ((zup h_s.2.1 d_s 0 (h_s.2.1 e_s 0)) e_s 4)) e_s 1)) e_s 2)) d_s 3 ((zup (zup (zup (zup h_s.2.1 d_s 0 (h_s.2.1 e_s 0)) d_s 4 ((zup h_s.2.1 d_s 0 (h_s.2.1 e_s 0)) e_s 4)) d_s 1 ((zup (zup h_s.2.1 d_s 0 (h_s.2.1 e_s 0)) d_s 4 ((zup h_s.2.1 d_s 0 (h_s.2.1 e_s 0)) e_s 4)) e_s 1)) d_s 2 ((zup (zup (zup h_s.2.1 d_s 0 (h_s.2.1 e_s 0)) d_s 4 ((zup h_s.2.1 d_s 0 (h_s.2.1 e_s 0)) e_s 4)) d_s 1 ((zup (zup h_s.2.1 d_s 0 (h_s.2.1 e_s 0)) d_s 4 ((zup h_s.2.1 d_s 0 (h_s.2.1 e_s 0)) e_s 4)) e_s 1)) e_s 2)) e_s 3)) e_s 5)) d_s 6 ((zup (zup (zup (zup (zup (zup h_s.2.1 d_s 0 (h_s.2.1 e_s 0)) d_s 4 ((zup h_s.2.1 d_s 0 (h_s.2.1 e_s 0)) e_s 4)) d_s 1 ((zup (zup h_s.2.1 d_s 0 (h_s.2.1 e_s 0)) d_s 4 ((zup h_s.2.1 d_s 0 (h_s.2.1 e_s 0)) e_s 4)) e_s 1)) d_s 2 ((zup (zup (zup h_s.2.1 d_s 0 (h_s.2.1 e_s 0)) d_s 4 ((zup h_s.2.1 d_s 0 (h_s.2.1 e_s 0)) e_s 4)) d_s 1 ((zup (zup h_s.2.1 d_s 0 (h_s.2.1 e_s 0)) d_s 4 ((zup h_s.2.1 d_s 0 (h_s.2.1 e_s 0)) e_s 4)) e_s 1)) e_s 2)) d_s 3 ((zup (zup (zup (zup h_s.2.1 d_s 0 (h_s.2.1 e_s 0)) d_s 4 ((zup h_s.2.1 d_s 0 (h_s.2.1 e_s 0)) e_s 4)) d_s 1 ((zup (zup h_s.2.1 d_s 0 (h_s.2.1 e_s 0)) d_s 4 ((zup h_s.2.1 d_s 0 (h_s.2.1 e_s 0)) e_s 4)) e_s 1)) d_s 2 ((zup (zup (zup h_s.2.1 d_s 0 (h_s.2.1 e_s 0)) d_s 4 ((zup h_s.2.1 d_s 0 (h_s.2.1 e_s 0)) e_s 4)) d_s 1 ((zup (zup h_s.2.1 d_s 0 (h_s.2.1 e_s 0)) d_s 4 ((zup h_s.2.1 d_s 0 (h_s.2.1 e_s 0)) e_s 4)) e_s 1)) e_s 2)) e_s 3)) d_s 5 ((zup (zup (zup (zup (zup h_s.2.1 d_s 0 (h_s.2.1 e_s 0)) d_s 4 ((zup h_s.2.1 d_s 0 (h_s.2.1 e_s 0)) e_s 4)) d_s 1 ((zup (zup h_s.2.1 d_s 0 (h_s.2.1 e_s 0)) d_s 4 ((zup h_s.2.1 d_s 0 (h_s.2.1 e_s 0)) e_s 4)) e_s 1)) d_s 2 ((zup (zup (zup h_s.2.1 d_s 0 (h_s.2.1 e_s 0)) d_s 4 ((zup h_s.2.1 d_s 0 (h_s.2.1 e_s 0)) e_s 4)) d_s 1 ((zup (zup h_s.2.1 d_s 0 (h_s.2.1 e_s 0)) d_s 4 ((zup h_s.2.1 d_s 0 (h_s.2.1 e_s 0)) e_s 4)) e_s 1)) e_s 2)) d_s 3 ((zup (zup (zup (zup h_s.2.1 d_s 0 (h_s.2.1 e_s 0)) d_s 4 ((zup h_s.2.1 d_s 0 (h_s.2.1 e_s 0)) e_s 4)) d_s 1 ((zup (zup h_s.2.1 d_s 0 (h_s.2.1 e_s 0)) d_s 4 ((zup h_s.2.1 d_s 0 (h_s.2.1 e_s 0)) e_s 4)) e_s 1)) d_s 2 ((zup (zup (zup h_s.2.1 d_s 0 (h_s.2.1 e_s 0)) d_s 4 ((zup h_s.2.1 d_s 0 (h_s.2.1 e_s 0)) e_s 4)) d_s 1 ((zup (zup h_s.2.1 d_s 0 (h_s.2.1 e_s 0)) d_s 4 ((zup h_s.2.1 d_s 0 (h_s.2.1 e_s 0)) e_s 4)) e_s 1)) e_s 2)) e_s 3)) e_s 5)) e_s 6), h_s.2.2.1, h_s.2.2.2)) : wF (F_s + 1) 35 (0, [some (.ref d_s), some (.ref e_s)], [], h_s) (gV K_s) := by
  refine w_0 (pc := 0) (e_s := (3, 1, 0, 0, 0, .null, [])) (y_s := (1, [some (.ref _), some (.ref _)], [.ref _], _)) rfl (u_ rfl) ?_
  refine w_t (pc := 1) (e_s := (3, 1, 1, 0, 0, .null, [])) (y_s := (2, [some (.ref _), some (.ref _)], [.ref _, .ref _], _)) rfl (u_ rfl) ?_
  refine w20 (pc := 2) (len_s := 3) rfl ?_
  refine w21 (pc := 5) (len_s := 3) rfl ?_
  refine w_t (pc := 8) (e_s := (3, 1, 0, 0, 0, .null, [])) (y_s := (9, [some (.ref _), some (.ref _)], [.ref _], _)) rfl (u_ rfl) ?_
  refine w_t (pc := 9) (e_s := (3, 1, 1, 0, 0, .null, [])) (y_s := (10, [some (.ref _), some (.ref _)], [.ref _, .ref _], _)) rfl (u_ rfl) ?_
  refine w20 (pc := 10) (len_s := 3) rfl ?_
  refine w21 (pc := 13) (len_s := 3) rfl ?_
  refine w_t (pc := 16) (e_s := (3, 1, 0, 0, 0, .null, [])) (y_s := (17, [some (.ref _), some (.ref _)], [.ref _], _)) rfl (u_ rfl) ?_
  refine w_t (pc := 17) (e_s := (3, 1, 1, 0, 0, .null, [])) (y_s := (18, [some (.ref _), some (.ref _)], [.ref _, .ref _], _)) rfl (u_ rfl) ?_
  refine wcV (pc := 18) (len_s := 3) rfl rfl (l := [some (.ref _), some (.ref _)]) rfl ?_
  refine w_t (pc := 0) (e_s := (3, 1, 0, 0, 0, .null, [])) (y_s := (1, [some (.ref _), some (.ref _)], [.ref _], _)) rfl (u_ rfl) ?_
  refine w_t (pc := 1) (e_s := (3, 1, 1, 0, 0, .null, [])) (y_s := (2, [some (.ref _), some (.ref _)], [.ref _, .ref _], _)) rfl (u_ rfl) ?_
  refine w20 (pc := 2) (len_s := 3) rfl ?_
  refine w21 (pc := 5) (len_s := 3) rfl ?_
  refine w_t (pc := 8) (e_s := (3, 1, 0, 0, 0, .null, [])) (y_s := (9, [some (.ref _), some (.ref _)], [.ref _], _)) rfl (u_ rfl) ?_
  refine w_t (pc := 9) (e_s := (3, 1, 1, 0, 0, .null, [])) (y_s := (10, [some (.ref _), some (.ref _)], [.ref _, .ref _], _)) rfl (u_ rfl) ?_
  refine w20 (pc := 10) (len_s := 3) rfl ?_
  refine w21 (pc := 13) (len_s := 3) rfl ?_
  refine w_t (pc := 16) (e_s := (3, 1, 0, 0, 0, .null, [])) (y_s := (17, [some (.ref _), some (.ref _)], [.ref _], _)) rfl (u_ rfl) ?_
  refine w_t (pc := 17) (e_s := (3, 1, 1, 0, 0, .null, [])) (y_s := (18, [some (.ref _), some (.ref _)], [.ref _, .ref _], _)) rfl (u_ rfl) ?_
  refine w20 (pc := 18) (len_s := 3) rfl ?_
  refine w21 (pc := 21) (len_s := 3) rfl ?_
  refine w_t (pc := 24) (e_s := (3, 1, 0, 0, 0, .null, [])) (y_s := (25, [some (.ref _), some (.ref _)], [.ref _], _)) rfl (u_ rfl) ?_
  refine w_t (pc := 25) (e_s := (3, 1, 1, 0, 0, .null, [])) (y_s := (26, [some (.ref _), some (.ref _)], [.ref _, .ref _], _)) rfl (u_ rfl) ?_
  refine w20 (pc := 26) (len_s := 3) rfl ?_
  refine w21 (pc := 29) (len_s := 3) rfl ?_
  refine w_t (pc := 32) (e_s := (3, 1, 0, 0, 0, .null, [])) (y_s := (33, [some (.ref _), some (.ref _)], [.ref _], _)) rfl (u_ rfl) ?_
  refine w_t (pc := 33) (e_s := (3, 1, 1, 0, 0, .null, [])) (y_s := (34, [some (.ref _), some (.ref _)], [.ref _, .ref _], _)) rfl (u_ rfl) ?_
  refine w20 (pc := 34) (len_s := 3) rfl ?_
  refine w21 (pc := 37) (len_s := 3) rfl ?_
  refine wrV (pc := 40) (len_s := 1) rfl hk ?_
  show wF _ 35 (21, [some (.ref _), some (.ref _)], [], _) _
  exact wrV (pc := 21) (len_s := 1) rfl hk t_s
/-- ColdShod$Idea.becomeByDeeds(LColdShod$Idea;)V, from 0 on -/
theorem sg_36_0 {F_s : Nat} {d_s e_s : Nat} {h_s : zH} {K_s : zH → Prop} (hk : hKn h_s) (t_s : K_s (h_s.1, zup (zup (zup (zup (zup h_s.2.1 d_s 1 (h_s.2.1 e_s 1)) d_s 2 ((zup h_s.2.1 d_s 1 (h_s.2.1 e_s 1)) e_s 2)) d_s 3 ((zup (zup h_s.2.1 d_s 1 (h_s.2.1 e_s 1)) d_s 2 ((zup h_s.2.1 d_s 1 (h_s.2.1 e_s 1)) e_s 2)) e_s 3)) d_s 5 ((zup (zup (zup h_s.2.1 d_s 1 (h_s.2.1 e_s 1)) d_s 2 ((zup h_s.2.1 d_s 1 (h_s.2.1 e_s 1)) e_s 2)) d_s 3 ((zup (zup h_s.2.1 d_s 1 (h_s.2.1 e_s 1)) d_s 2 ((zup h_s.2.1 d_s 1 (h_s.2.1 e_s 1)) e_s 2)) e_s 3)) e_s 5)) d_s 6 ((zup (zup (zup (zup h_s.2.1 d_s 1 (h_s.2.1 e_s 1)) d_s 2 ((zup h_s.2.1 d_s 1 (h_s.2.1 e_s 1)) e_s 2)) d_s 3 ((zup (zup h_s.2.1 d_s 1 (h_s.2.1 e_s 1)) d_s 2 ((zup h_s.2.1 d_s 1 (h_s.2.1 e_s 1)) e_s 2)) e_s 3)) d_s 5 ((zup (zup (zup h_s.2.1 d_s 1 (h_s.2.1 e_s 1)) d_s 2 ((zup h_s.2.1 d_s 1 (h_s.2.1 e_s 1)) e_s 2)) d_s 3 ((zup (zup h_s.2.1 d_s 1 (h_s.2.1 e_s 1)) d_s 2 ((zup h_s.2.1 d_s 1 (h_s.2.1 e_s 1)) e_s 2)) e_s 3)) e_s 5)) e_s 6), h_s.2.2.1, h_s.2.2.2)) : wF (F_s + 1) 36 (0, [some (.ref d_s), some (.ref e_s)], [], h_s) (gV K_s) := by
  refine w_0 (pc := 0) (e_s := (3, 1, 0, 0, 0, .null, [])) (y_s := (1, [some (.ref _), some (.ref _)], [.ref _], _)) rfl (u_ rfl) ?_
  refine w_t (pc := 1) (e_s := (3, 1, 1, 0, 0, .null, [])) (y_s := (2, [some (.ref _), some (.ref _)], [.ref _, .ref _], _)) rfl (u_ rfl) ?_
  refine w20 (pc := 2) (len_s := 3) rfl ?_
  refine w21 (pc := 5) (len_s := 3) rfl ?_
  refine w_t (pc := 8) (e_s := (3, 1, 0, 0, 0, .null, [])) (y_s := (9, [some (.ref _), some (.ref _)], [.ref _], _)) rfl (u_ rfl) ?_
  refine w_t (pc := 9) (e_s := (3, 1, 1, 0, 0, .null, [])) (y_s := (10, [some (.ref _), some (.ref _)], [.ref _, .ref _], _)) rfl (u_ rfl) ?_
  refine w20 (pc := 10) (len_s := 3) rfl ?_
  refine w21 (pc := 13) (len_s := 3) rfl ?_
  refine w_t (pc := 16) (e_s := (3, 1, 0, 0, 0, .null, [])) (y_s := (17, [some (.ref _), some (.ref _)], [.ref _], _)) rfl (u_ rfl) ?_
  refine w_t (pc := 17) (e_s := (3, 1, 1, 0, 0, .null, [])) (y_s := (18, [some (.ref _), some (.ref _)], [.ref _, .ref _], _)) rfl (u_ rfl) ?_
  refine w20 (pc := 18) (len_s := 3) rfl ?_
  refine w21 (pc := 21) (len_s := 3) rfl ?_
  refine w_t (pc := 24) (e_s := (3, 1, 0, 0, 0, .null, [])) (y_s := (25, [some (.ref _), some (.ref _)], [.ref _], _)) rfl (u_ rfl) ?_
  refine w_t (pc := 25) (e_s := (3, 1, 1, 0, 0, .null, [])) (y_s := (26, [some (.ref _), some (.ref _)], [.ref _, .ref _], _)) rfl (u_ rfl) ?_
  refine w20 (pc := 26) (len_s := 3) rfl ?_
  refine w21 (pc := 29) (len_s := 3) rfl ?_
  refine w_t (pc := 32) (e_s := (3, 1, 0, 0, 0, .null, [])) (y_s := (33, [some (.ref _), some (.ref _)], [.ref _], _)) rfl (u_ rfl) ?_
  refine w_t (pc := 33) (e_s := (3, 1, 1, 0, 0, .null, [])) (y_s := (34, [some (.ref _), some (.ref _)], [.ref _, .ref _], _)) rfl (u_ rfl) ?_
  refine w20 (pc := 34) (len_s := 3) rfl ?_
  refine w21 (pc := 37) (len_s := 3) rfl ?_
  exact wrV (pc := 40) (len_s := 1) rfl hk t_s
/-- ColdShodModel.image()I, from 0 on -/
theorem sg_215_0 {F_s : Nat}  {h_s : zH} {K_s : Int32 → zH → Prop} (hk : hKn h_s) (t_s : wF F_s 215 (15, [some (.ref 102), some (.int 0)], [], (h_s.1, zup (zup h_s.2.1 102 35 1) 102 36 (h_s.2.1 102 7), h_s.2.2.1, h_s.2.2.2)) (gI K_s)) : wF (F_s + 1) 215 (0, [some (.ref 102), none], [], h_s) (gI K_s) := by
  refine w_0 (pc := 0) (e_s := (3, 1, 0, 0, 0, .null, [])) (y_s := (1, [some (.ref _), none], [.ref _], _)) rfl (u_ rfl) ?_
  refine w_t (pc := 1) (e_s := (0, 1, 0, 0, 0, .int 1, [])) (y_s := (2, [some (.ref _), none], [.int _, .ref _], _)) rfl (u_ rfl) ?_
  refine w21b (pc := 2) (len_s := 3) rfl ?_
  refine w_t (pc := 5) (e_s := (3, 1, 0, 0, 0, .null, [])) (y_s := (6, [some (.ref _), none], [.ref _], _)) rfl (u_ rfl) ?_
  refine w_t (pc := 6) (e_s := (3, 1, 0, 0, 0, .null, [])) (y_s := (7, [some (.ref _), none], [.ref _, .ref _], _)) rfl (u_ rfl) ?_
  refine w20 (pc := 7) (len_s := 3) rfl ?_
  refine w21 (pc := 10) (len_s := 3) rfl ?_
  refine w_t (pc := 13) (e_s := (0, 1, 0, 0, 0, .int 0, [])) (y_s := (14, [some (.ref _), none], [.int _], _)) rfl (u_ rfl) ?_
  refine w_t (pc := 14) (e_s := (4, 1, 1, 0, 0, .null, [])) (y_s := (15, [some (.ref _), some (.int _)], [], _)) rfl (u_ rfl) ?_
  exact t_s
/-- ColdShodModel.image()I, from 15 on -/
theorem sg_215_15 {F_s : Nat} {x1_s : Int32} {h_s : zH} {K_s : Int32 → zH → Prop} (hk : hKn h_s) (t_s : (x1_s.toInt < 104 → (zix x1_s < 104 → wF F_s 215 (15, [some (.ref 102), some (.int (x1_s + 1))], [], (h_s.1, zup h_s.2.1 120 (zix x1_s) (h_s.2.1 103 (zix x1_s)), h_s.2.2.1, h_s.2.2.2)) (gI K_s))) ∧ (¬ x1_s.toInt < 104 → wF F_s 215 (41, [some (.ref 102), some (.int 0)], [], h_s) (gI K_s))) : wF (F_s + 1) 215 (15, [some (.ref 102), some (.int x1_s)], [], h_s) (gI K_s) := by
  refine w_0 (pc := 15) (e_s := (1, 1, 1, 0, 0, .null, [])) (y_s := (16, [some (.ref _), some (.int _)], [.int _], _)) rfl (u_ rfl) ?_
  refine w_t (pc := 16) (e_s := (0, 2, 0, 0, 0, .int 104, [])) (y_s := (18, [some (.ref _), some (.int _)], [.int _, .int _], _)) rfl (u_ rfl) ?_
  refine wi3 (pc := 18) (len_s := 3) (Y := 104) rfl rfl (by decide) (fun c1_s => ?_) (fun c1_s => ?_)
  · replace t_s := t_s.1 c1_s
    refine w_t (pc := 21) (e_s := (3, 1, 0, 0, 0, .null, [])) (y_s := (22, [some (.ref _), some (.int _)], [.ref _], _)) rfl (u_ rfl) ?_
    refine w20r (pc := 22) (len_s := 3) (q_s := 120) rfl (krq hk rfl) ?_
    refine w_t (pc := 25) (e_s := (1, 1, 1, 0, 0, .null, [])) (y_s := (26, [some (.ref _), some (.int _)], [.int _, .ref _], _)) rfl (u_ rfl) ?_
    refine w_t (pc := 26) (e_s := (3, 1, 0, 0, 0, .null, [])) (y_s := (27, [some (.ref _), some (.int _)], [.ref _, .int _, .ref _], _)) rfl (u_ rfl) ?_
    refine w20r (pc := 27) (len_s := 3) (q_s := 103) rfl (krq hk rfl) ?_
    refine w_t (pc := 30) (e_s := (1, 1, 1, 0, 0, .null, [])) (y_s := (31, [some (.ref _), some (.int _)], [.int _, .ref _, .int _, .ref _], _)) rfl (u_ rfl) ?_
    refine w22 (pc := 31) (len_s := 1) rfl (hk.1 103 0 104 rfl rfl) (fun c2_s => ?_)
    replace t_s := t_s c2_s
    refine w25 (pc := 32) (len_s := 1) rfl (hk.1 120 0 104 rfl rfl) (fun c3_s => ?_)
    refine w_t (pc := 33) (e_s := (19, 3, 1, 0, 0, .int 1, [])) (y_s := (36, [some (.ref _), some (.int _)], [], _)) rfl (u_ rfl) ?_
    refine w_t (pc := 36) (e_s := (17, 3, 15, 0, 0, .null, [])) (y_s := (15, [some (.ref _), some (.int _)], [], _)) rfl (u_ rfl) ?_
    exact t_s
  · replace t_s := t_s.2 c1_s
    refine w_t (pc := 39) (e_s := (0, 1, 0, 0, 0, .int 0, [])) (y_s := (40, [some (.ref _), some (.int _)], [.int _], _)) rfl (u_ rfl) ?_
    refine w_t (pc := 40) (e_s := (4, 1, 1, 0, 0, .null, [])) (y_s := (41, [some (.ref _), some (.int _)], [], _)) rfl (u_ rfl) ?_
    exact t_s
/-- ColdShodModel.image()I, from 41 on -/
theorem sg_215_41 {F_s : Nat} {x1_s : Int32} {h_s : zH} {K_s : Int32 → zH → Prop} (hk : hKn h_s) (t_s : (x1_s.toInt < 5 → (zix x1_s < 5 → wF F_s 215 (41, [some (.ref 102), some (.int (x1_s + 1))], [], (h_s.1, zup h_s.2.1 121 (zix x1_s) (h_s.2.1 119 (zix x1_s)), h_s.2.2.1, h_s.2.2.2)) (gI K_s))) ∧ (¬ x1_s.toInt < 5 → K_s (h_s.2.1 119 3) h_s)) : wF (F_s + 1) 215 (41, [some (.ref 102), some (.int x1_s)], [], h_s) (gI K_s) := by
  refine w_0 (pc := 41) (e_s := (1, 1, 1, 0, 0, .null, [])) (y_s := (42, [some (.ref _), some (.int _)], [.int _], _)) rfl (u_ rfl) ?_
  refine w_t (pc := 42) (e_s := (0, 1, 0, 0, 0, .int 5, [])) (y_s := (43, [some (.ref _), some (.int _)], [.int _, .int _], _)) rfl (u_ rfl) ?_
  refine wi3 (pc := 43) (len_s := 3) (Y := 5) rfl rfl (by decide) (fun c1_s => ?_) (fun c1_s => ?_)
  · replace t_s := t_s.1 c1_s
    refine w_t (pc := 46) (e_s := (3, 1, 0, 0, 0, .null, [])) (y_s := (47, [some (.ref _), some (.int _)], [.ref _], _)) rfl (u_ rfl) ?_
    refine w20r (pc := 47) (len_s := 3) (q_s := 121) rfl (krq hk rfl) ?_
    refine w_t (pc := 50) (e_s := (1, 1, 1, 0, 0, .null, [])) (y_s := (51, [some (.ref _), some (.int _)], [.int _, .ref _], _)) rfl (u_ rfl) ?_
    refine w_t (pc := 51) (e_s := (3, 1, 0, 0, 0, .null, [])) (y_s := (52, [some (.ref _), some (.int _)], [.ref _, .int _, .ref _], _)) rfl (u_ rfl) ?_
    refine w20r (pc := 52) (len_s := 3) (q_s := 119) rfl (krq hk rfl) ?_
    refine w_t (pc := 55) (e_s := (1, 1, 1, 0, 0, .null, [])) (y_s := (56, [some (.ref _), some (.int _)], [.int _, .ref _, .int _, .ref _], _)) rfl (u_ rfl) ?_
    refine w22 (pc := 56) (len_s := 1) rfl (hk.1 119 0 5 rfl rfl) (fun c2_s => ?_)
    replace t_s := t_s c2_s
    refine w25 (pc := 57) (len_s := 1) rfl (hk.1 121 0 5 rfl rfl) (fun c3_s => ?_)
    refine w_t (pc := 58) (e_s := (19, 3, 1, 0, 0, .int 1, [])) (y_s := (61, [some (.ref _), some (.int _)], [], _)) rfl (u_ rfl) ?_
    refine w_t (pc := 61) (e_s := (17, 3, 41, 0, 0, .null, [])) (y_s := (41, [some (.ref _), some (.int _)], [], _)) rfl (u_ rfl) ?_
    exact t_s
  · replace t_s := t_s.2 c1_s
    refine w_t (pc := 64) (e_s := (3, 1, 0, 0, 0, .null, [])) (y_s := (65, [some (.ref _), some (.int _)], [.ref _], _)) rfl (u_ rfl) ?_
    refine w20r (pc := 65) (len_s := 3) (q_s := 119) rfl (krq hk rfl) ?_
    refine w_t (pc := 68) (e_s := (0, 1, 0, 0, 0, .int 3, [])) (y_s := (69, [some (.ref _), some (.int _)], [.int _, .ref _], _)) rfl (u_ rfl) ?_
    refine w22 (pc := 69) (len_s := 1) rfl (hk.1 119 0 5 rfl rfl) (fun c4_s => ?_)
    exact wrI (pc := 70) (len_s := 1) rfl hk t_s
/-- ColdShodModel.back()I, from 0 on -/
theorem sg_216_0 {F_s : Nat}  {h_s : zH} {K_s : Int32 → zH → Prop} (hk : hKn h_s) (t_s : ((h_s.2.1 102 35).toInt = 0 → K_s (-5) h_s) ∧ (¬ (h_s.2.1 102 35).toInt = 0 → wF F_s 216 (12, [some (.ref 102), some (.int 0)], [], h_s) (gI K_s))) : wF (F_s + 1) 216 (0, [some (.ref 102), none], [], h_s) (gI K_s) := by
  refine w_0 (pc := 0) (e_s := (3, 1, 0, 0, 0, .null, [])) (y_s := (1, [some (.ref _), none], [.ref _], _)) rfl (u_ rfl) ?_
  refine w20 (pc := 1) (len_s := 3) rfl ?_
  refine wq1 (pc := 4) (len_s := 3) rfl rfl (fun c1_s => ?_) (fun c1_s => ?_)
  · replace t_s := t_s.1 c1_s
    refine w_t (pc := 7) (e_s := (0, 2, 0, 0, 0, .int (-5), [])) (y_s := (9, [some (.ref _), none], [.int _], _)) rfl (u_ rfl) ?_
    exact wrI (pc := 9) (len_s := 1) rfl hk t_s
  · replace t_s := t_s.2 c1_s
    refine w_t (pc := 10) (e_s := (0, 1, 0, 0, 0, .int 0, [])) (y_s := (11, [some (.ref _), none], [.int _], _)) rfl (u_ rfl) ?_
    refine w_t (pc := 11) (e_s := (4, 1, 1, 0, 0, .null, [])) (y_s := (12, [some (.ref _), some (.int _)], [], _)) rfl (u_ rfl) ?_
    exact t_s
/-- ColdShodModel.back()I, from 12 on -/
theorem sg_216_12 {F_s : Nat} {x1_s : Int32} {h_s : zH} {K_s : Int32 → zH → Prop} (hk : hKn h_s) (t_s : (x1_s.toInt < (h_s.2.1 102 36).toInt → (zix (20 + x1_s) < 104 → (zix (28 + x1_s) < 104 → (zix (36 + x1_s) < 104 → (zix (52 + x1_s) < 104 → (zix (60 + x1_s) < 104 → wF F_s 216 (12, [some (.ref 102), some (.int (x1_s + 1))], [], (h_s.1, zup (zup (zup (zup (zup h_s.2.1 103 (zix (20 + x1_s)) (h_s.2.1 120 (zix (20 + x1_s)))) 103 (zix (28 + x1_s)) (h_s.2.1 120 (zix (28 + x1_s)))) 103 (zix (36 + x1_s)) (h_s.2.1 120 (zix (36 + x1_s)))) 103 (zix (52 + x1_s)) (h_s.2.1 120 (zix (52 + x1_s)))) 103 (zix (60 + x1_s)) (h_s.2.1 120 (zix (60 + x1_s))), h_s.2.2.1, h_s.2.2.2)) (gI K_s))))))) ∧ (¬ x1_s.toInt < (h_s.2.1 102 36).toInt → wF F_s 216 (118, [some (.ref 102), some (.int 0)], [], h_s) (gI K_s))) : wF (F_s + 1) 216 (12, [some (.ref 102), some (.int x1_s)], [], h_s) (gI K_s) := by
  refine w_0 (pc := 12) (e_s := (1, 1, 1, 0, 0, .null, [])) (y_s := (13, [some (.ref _), some (.int _)], [.int _], _)) rfl (u_ rfl) ?_
  refine w_t (pc := 13) (e_s := (3, 1, 0, 0, 0, .null, [])) (y_s := (14, [some (.ref _), some (.int _)], [.ref _, .int _], _)) rfl (u_ rfl) ?_
  refine w20 (pc := 14) (len_s := 3) rfl ?_
  refine wi3 (pc := 17) (len_s := 3) rfl rfl rfl (fun c1_s => ?_) (fun c1_s => ?_)
  · replace t_s := t_s.1 c1_s
    refine w_t (pc := 20) (e_s := (3, 1, 0, 0, 0, .null, [])) (y_s := (21, [some (.ref _), some (.int _)], [.ref _], _)) rfl (u_ rfl) ?_
    refine w20r (pc := 21) (len_s := 3) (q_s := 103) rfl (krq hk rfl) ?_
    refine w_t (pc := 24) (e_s := (0, 2, 0, 0, 0, .int 20, [])) (y_s := (26, [some (.ref _), some (.int _)], [.int _, .ref _], _)) rfl (u_ rfl) ?_
    refine w_t (pc := 26) (e_s := (1, 1, 1, 0, 0, .null, [])) (y_s := (27, [some (.ref _), some (.int _)], [.int _, .int _, .ref _], _)) rfl (u_ rfl) ?_
    refine w_t (pc := 27) (e_s := (7, 1, 0, 0, 0, .null, [])) (y_s := (28, [some (.ref _), some (.int _)], [.int (_ + _), .ref _], _)) rfl (u_ rfl) ?_
    refine w_t (pc := 28) (e_s := (3, 1, 0, 0, 0, .null, [])) (y_s := (29, [some (.ref _), some (.int _)], [.ref _, .int _, .ref _], _)) rfl (u_ rfl) ?_
    refine w20r (pc := 29) (len_s := 3) (q_s := 120) rfl (krq hk rfl) ?_
    refine w_t (pc := 32) (e_s := (0, 2, 0, 0, 0, .int 20, [])) (y_s := (34, [some (.ref _), some (.int _)], [.int _, .ref _, .int _, .ref _], _)) rfl (u_ rfl) ?_
    refine w_t (pc := 34) (e_s := (1, 1, 1, 0, 0, .null, [])) (y_s := (35, [some (.ref _), some (.int _)], [.int _, .int _, .ref _, .int _, .ref _], _)) rfl (u_ rfl) ?_
    refine w_t (pc := 35) (e_s := (7, 1, 0, 0, 0, .null, [])) (y_s := (36, [some (.ref _), some (.int _)], [.int (_ + _), .ref _, .int _, .ref _], _)) rfl (u_ rfl) ?_
    refine w22 (pc := 36) (len_s := 1) rfl (hk.1 120 0 104 rfl rfl) (fun c2_s => ?_)
    replace t_s := t_s c2_s
    refine w25 (pc := 37) (len_s := 1) rfl (hk.1 103 0 104 rfl rfl) (fun c3_s => ?_)
    refine w_t (pc := 38) (e_s := (3, 1, 0, 0, 0, .null, [])) (y_s := (39, [some (.ref _), some (.int _)], [.ref _], _)) rfl (u_ rfl) ?_
    refine w20r (pc := 39) (len_s := 3) (q_s := 103) rfl (krq hk rfl) ?_
    refine w_t (pc := 42) (e_s := (0, 2, 0, 0, 0, .int 28, [])) (y_s := (44, [some (.ref _), some (.int _)], [.int _, .ref _], _)) rfl (u_ rfl) ?_
    refine w_t (pc := 44) (e_s := (1, 1, 1, 0, 0, .null, [])) (y_s := (45, [some (.ref _), some (.int _)], [.int _, .int _, .ref _], _)) rfl (u_ rfl) ?_
    refine w_t (pc := 45) (e_s := (7, 1, 0, 0, 0, .null, [])) (y_s := (46, [some (.ref _), some (.int _)], [.int (_ + _), .ref _], _)) rfl (u_ rfl) ?_
    refine w_t (pc := 46) (e_s := (3, 1, 0, 0, 0, .null, [])) (y_s := (47, [some (.ref _), some (.int _)], [.ref _, .int _, .ref _], _)) rfl (u_ rfl) ?_
    refine w20r (pc := 47) (len_s := 3) (q_s := 120) rfl (krq hk rfl) ?_
    refine w_t (pc := 50) (e_s := (0, 2, 0, 0, 0, .int 28, [])) (y_s := (52, [some (.ref _), some (.int _)], [.int _, .ref _, .int _, .ref _], _)) rfl (u_ rfl) ?_
    refine w_t (pc := 52) (e_s := (1, 1, 1, 0, 0, .null, [])) (y_s := (53, [some (.ref _), some (.int _)], [.int _, .int _, .ref _, .int _, .ref _], _)) rfl (u_ rfl) ?_
    refine w_t (pc := 53) (e_s := (7, 1, 0, 0, 0, .null, [])) (y_s := (54, [some (.ref _), some (.int _)], [.int (_ + _), .ref _, .int _, .ref _], _)) rfl (u_ rfl) ?_
    refine w22 (pc := 54) (len_s := 1) rfl (hk.1 120 0 104 rfl rfl) (fun c4_s => ?_)
    replace t_s := t_s c4_s
    refine w25 (pc := 55) (len_s := 1) rfl (hk.1 103 0 104 rfl rfl) (fun c5_s => ?_)
    refine w_t (pc := 56) (e_s := (3, 1, 0, 0, 0, .null, [])) (y_s := (57, [some (.ref _), some (.int _)], [.ref _], _)) rfl (u_ rfl) ?_
    refine w20r (pc := 57) (len_s := 3) (q_s := 103) rfl (krq hk rfl) ?_
    refine w_t (pc := 60) (e_s := (0, 2, 0, 0, 0, .int 36, [])) (y_s := (62, [some (.ref _), some (.int _)], [.int _, .ref _], _)) rfl (u_ rfl) ?_
    refine w_t (pc := 62) (e_s := (1, 1, 1, 0, 0, .null, [])) (y_s := (63, [some (.ref _), some (.int _)], [.int _, .int _, .ref _], _)) rfl (u_ rfl) ?_
    refine w_t (pc := 63) (e_s := (7, 1, 0, 0, 0, .null, [])) (y_s := (64, [some (.ref _), some (.int _)], [.int (_ + _), .ref _], _)) rfl (u_ rfl) ?_
    refine w_t (pc := 64) (e_s := (3, 1, 0, 0, 0, .null, [])) (y_s := (65, [some (.ref _), some (.int _)], [.ref _, .int _, .ref _], _)) rfl (u_ rfl) ?_
    refine w20r (pc := 65) (len_s := 3) (q_s := 120) rfl (krq hk rfl) ?_
    refine w_t (pc := 68) (e_s := (0, 2, 0, 0, 0, .int 36, [])) (y_s := (70, [some (.ref _), some (.int _)], [.int _, .ref _, .int _, .ref _], _)) rfl (u_ rfl) ?_
    refine w_t (pc := 70) (e_s := (1, 1, 1, 0, 0, .null, [])) (y_s := (71, [some (.ref _), some (.int _)], [.int _, .int _, .ref _, .int _, .ref _], _)) rfl (u_ rfl) ?_
    refine w_t (pc := 71) (e_s := (7, 1, 0, 0, 0, .null, [])) (y_s := (72, [some (.ref _), some (.int _)], [.int (_ + _), .ref _, .int _, .ref _], _)) rfl (u_ rfl) ?_
    refine w22 (pc := 72) (len_s := 1) rfl (hk.1 120 0 104 rfl rfl) (fun c6_s => ?_)
    replace t_s := t_s c6_s
    refine w25 (pc := 73) (len_s := 1) rfl (hk.1 103 0 104 rfl rfl) (fun c7_s => ?_)
    refine w_t (pc := 74) (e_s := (3, 1, 0, 0, 0, .null, [])) (y_s := (75, [some (.ref _), some (.int _)], [.ref _], _)) rfl (u_ rfl) ?_
    refine w20r (pc := 75) (len_s := 3) (q_s := 103) rfl (krq hk rfl) ?_
    refine w_t (pc := 78) (e_s := (0, 2, 0, 0, 0, .int 52, [])) (y_s := (80, [some (.ref _), some (.int _)], [.int _, .ref _], _)) rfl (u_ rfl) ?_
    refine w_t (pc := 80) (e_s := (1, 1, 1, 0, 0, .null, [])) (y_s := (81, [some (.ref _), some (.int _)], [.int _, .int _, .ref _], _)) rfl (u_ rfl) ?_
    refine w_t (pc := 81) (e_s := (7, 1, 0, 0, 0, .null, [])) (y_s := (82, [some (.ref _), some (.int _)], [.int (_ + _), .ref _], _)) rfl (u_ rfl) ?_
    refine w_t (pc := 82) (e_s := (3, 1, 0, 0, 0, .null, [])) (y_s := (83, [some (.ref _), some (.int _)], [.ref _, .int _, .ref _], _)) rfl (u_ rfl) ?_
    refine w20r (pc := 83) (len_s := 3) (q_s := 120) rfl (krq hk rfl) ?_
    refine w_t (pc := 86) (e_s := (0, 2, 0, 0, 0, .int 52, [])) (y_s := (88, [some (.ref _), some (.int _)], [.int _, .ref _, .int _, .ref _], _)) rfl (u_ rfl) ?_
    refine w_t (pc := 88) (e_s := (1, 1, 1, 0, 0, .null, [])) (y_s := (89, [some (.ref _), some (.int _)], [.int _, .int _, .ref _, .int _, .ref _], _)) rfl (u_ rfl) ?_
    refine w_t (pc := 89) (e_s := (7, 1, 0, 0, 0, .null, [])) (y_s := (90, [some (.ref _), some (.int _)], [.int (_ + _), .ref _, .int _, .ref _], _)) rfl (u_ rfl) ?_
    refine w22 (pc := 90) (len_s := 1) rfl (hk.1 120 0 104 rfl rfl) (fun c8_s => ?_)
    replace t_s := t_s c8_s
    refine w25 (pc := 91) (len_s := 1) rfl (hk.1 103 0 104 rfl rfl) (fun c9_s => ?_)
    refine w_t (pc := 92) (e_s := (3, 1, 0, 0, 0, .null, [])) (y_s := (93, [some (.ref _), some (.int _)], [.ref _], _)) rfl (u_ rfl) ?_
    refine w20r (pc := 93) (len_s := 3) (q_s := 103) rfl (krq hk rfl) ?_
    refine w_t (pc := 96) (e_s := (0, 2, 0, 0, 0, .int 60, [])) (y_s := (98, [some (.ref _), some (.int _)], [.int _, .ref _], _)) rfl (u_ rfl) ?_
    refine w_t (pc := 98) (e_s := (1, 1, 1, 0, 0, .null, [])) (y_s := (99, [some (.ref _), some (.int _)], [.int _, .int _, .ref _], _)) rfl (u_ rfl) ?_
    refine w_t (pc := 99) (e_s := (7, 1, 0, 0, 0, .null, [])) (y_s := (100, [some (.ref _), some (.int _)], [.int (_ + _), .ref _], _)) rfl (u_ rfl) ?_
    refine w_t (pc := 100) (e_s := (3, 1, 0, 0, 0, .null, [])) (y_s := (101, [some (.ref _), some (.int _)], [.ref _, .int _, .ref _], _)) rfl (u_ rfl) ?_
    refine w20r (pc := 101) (len_s := 3) (q_s := 120) rfl (krq hk rfl) ?_
    refine w_t (pc := 104) (e_s := (0, 2, 0, 0, 0, .int 60, [])) (y_s := (106, [some (.ref _), some (.int _)], [.int _, .ref _, .int _, .ref _], _)) rfl (u_ rfl) ?_
    refine w_t (pc := 106) (e_s := (1, 1, 1, 0, 0, .null, [])) (y_s := (107, [some (.ref _), some (.int _)], [.int _, .int _, .ref _, .int _, .ref _], _)) rfl (u_ rfl) ?_
    refine w_t (pc := 107) (e_s := (7, 1, 0, 0, 0, .null, [])) (y_s := (108, [some (.ref _), some (.int _)], [.int (_ + _), .ref _, .int _, .ref _], _)) rfl (u_ rfl) ?_
    refine w22 (pc := 108) (len_s := 1) rfl (hk.1 120 0 104 rfl rfl) (fun c10_s => ?_)
    replace t_s := t_s c10_s
    refine w25 (pc := 109) (len_s := 1) rfl (hk.1 103 0 104 rfl rfl) (fun c11_s => ?_)
    refine w_t (pc := 110) (e_s := (19, 3, 1, 0, 0, .int 1, [])) (y_s := (113, [some (.ref _), some (.int _)], [], _)) rfl (u_ rfl) ?_
    refine w_t (pc := 113) (e_s := (17, 3, 12, 0, 0, .null, [])) (y_s := (12, [some (.ref _), some (.int _)], [], _)) rfl (u_ rfl) ?_
    exact t_s
  · replace t_s := t_s.2 c1_s
    refine w_t (pc := 116) (e_s := (0, 1, 0, 0, 0, .int 0, [])) (y_s := (117, [some (.ref _), some (.int _)], [.int _], _)) rfl (u_ rfl) ?_
    refine w_t (pc := 117) (e_s := (4, 1, 1, 0, 0, .null, [])) (y_s := (118, [some (.ref _), some (.int _)], [], _)) rfl (u_ rfl) ?_
    exact t_s
/-- ColdShodModel.back()I, from 118 on -/
theorem sg_216_118 {F_s : Nat} {x1_s : Int32} {h_s : zH} {K_s : Int32 → zH → Prop} (hk : hKn h_s) (t_s : (x1_s.toInt < 5 → (zix x1_s < 5 → wF F_s 216 (118, [some (.ref 102), some (.int (x1_s + 1))], [], (h_s.1, zup h_s.2.1 119 (zix x1_s) (h_s.2.1 121 (zix x1_s)), h_s.2.2.1, h_s.2.2.2)) (gI K_s))) ∧ (¬ x1_s.toInt < 5 → K_s (h_s.2.1 119 3) h_s)) : wF (F_s + 1) 216 (118, [some (.ref 102), some (.int x1_s)], [], h_s) (gI K_s) := by
  refine w_0 (pc := 118) (e_s := (1, 1, 1, 0, 0, .null, [])) (y_s := (119, [some (.ref _), some (.int _)], [.int _], _)) rfl (u_ rfl) ?_
  refine w_t (pc := 119) (e_s := (0, 1, 0, 0, 0, .int 5, [])) (y_s := (120, [some (.ref _), some (.int _)], [.int _, .int _], _)) rfl (u_ rfl) ?_
  refine wi3 (pc := 120) (len_s := 3) (Y := 5) rfl rfl (by decide) (fun c1_s => ?_) (fun c1_s => ?_)
  · replace t_s := t_s.1 c1_s
    refine w_t (pc := 123) (e_s := (3, 1, 0, 0, 0, .null, [])) (y_s := (124, [some (.ref _), some (.int _)], [.ref _], _)) rfl (u_ rfl) ?_
    refine w20r (pc := 124) (len_s := 3) (q_s := 119) rfl (krq hk rfl) ?_
    refine w_t (pc := 127) (e_s := (1, 1, 1, 0, 0, .null, [])) (y_s := (128, [some (.ref _), some (.int _)], [.int _, .ref _], _)) rfl (u_ rfl) ?_
    refine w_t (pc := 128) (e_s := (3, 1, 0, 0, 0, .null, [])) (y_s := (129, [some (.ref _), some (.int _)], [.ref _, .int _, .ref _], _)) rfl (u_ rfl) ?_
    refine w20r (pc := 129) (len_s := 3) (q_s := 121) rfl (krq hk rfl) ?_
    refine w_t (pc := 132) (e_s := (1, 1, 1, 0, 0, .null, [])) (y_s := (133, [some (.ref _), some (.int _)], [.int _, .ref _, .int _, .ref _], _)) rfl (u_ rfl) ?_
    refine w22 (pc := 133) (len_s := 1) rfl (hk.1 121 0 5 rfl rfl) (fun c2_s => ?_)
    replace t_s := t_s c2_s
    refine w25 (pc := 134) (len_s := 1) rfl (hk.1 119 0 5 rfl rfl) (fun c3_s => ?_)
    refine w_t (pc := 135) (e_s := (19, 3, 1, 0, 0, .int 1, [])) (y_s := (138, [some (.ref _), some (.int _)], [], _)) rfl (u_ rfl) ?_
    refine w_t (pc := 138) (e_s := (17, 3, 118, 0, 0, .null, [])) (y_s := (118, [some (.ref _), some (.int _)], [], _)) rfl (u_ rfl) ?_
    exact t_s
  · replace t_s := t_s.2 c1_s
    refine w_t (pc := 141) (e_s := (3, 1, 0, 0, 0, .null, [])) (y_s := (142, [some (.ref _), some (.int _)], [.ref _], _)) rfl (u_ rfl) ?_
    refine w20r (pc := 142) (len_s := 3) (q_s := 119) rfl (krq hk rfl) ?_
    refine w_t (pc := 145) (e_s := (0, 1, 0, 0, 0, .int 3, [])) (y_s := (146, [some (.ref _), some (.int _)], [.int _, .ref _], _)) rfl (u_ rfl) ?_
    refine w22 (pc := 146) (len_s := 1) rfl (hk.1 119 0 5 rfl rfl) (fun c4_s => ?_)
    exact wrI (pc := 147) (len_s := 1) rfl hk t_s
/-! A stroke; heads and ideas that come. -/
section S4
variable {F_s : Nat} {h_s : zH} {K_s : Int32 → zH → Prop} {V : zH → Prop} {nh ni nr : Nat} {lw : Option (List pB)} {x1_s x2_s : Int32} {f_s : Nat → Nat → Int32}
noncomputable def okS (ni : Nat) (x1_s x2_s : Int32) : Prop := 0 ≤ x1_s.toInt ∧ x1_s.toInt < (ni : Int) ∧ 0 ≤ x2_s.toInt ∧ x2_s.toInt ≤ 3
theorem sp_117 (hk : hKn h_s) (hc_s : tC nh ni nr f_s) (t1_s : ¬ okS ni x1_s x2_s → K_s (-1) (h_s.1, f_s, h_s.2.2.1, h_s.2.2.2)) (t2_s : ∀ i_s : Nat, x1_s.toInt = (i_s : Int) → i_s < ni → 0 ≤ x2_s.toInt → x2_s.toInt ≤ 3 → ∀ v_s f1_s, (∀ k_s, k_s < 6 → f1_s (20 + i_s) k_s = stO x2_s.toInt (owI f_s i_s) k_s) → (∀ a_s k_s, ¬ (a_s = 20 + i_s ∧ k_s < 6) → ¬ (a_s = 73 ∧ k_s < 2) → f1_s a_s k_s = f_s a_s k_s) → K_s v_s (h_s.1, f1_s, h_s.2.2.1, h_s.2.2.2)) : wF F_s 117 (0, [some (.ref 6), some (.int x1_s), some (.int x2_s), none], [], (h_s.1, f_s, h_s.2.2.1, h_s.2.2.2)) (gI K_s) := by
  have e7_s := hc_s.2.1.2.1
  have b_s := hc_s.1
  unfold okS at t1_s
  refine wF_le (Nat.le_succ F_s) (sg_117_0 (h_s := (h_s.1, f_s, h_s.2.2.1, h_s.2.2.2)) hk ?_)
  dsimp only
  rw [e7_s]
  refine ⟨fun c_s => t1_s (by omega), fun c1_s => ⟨fun c2_s => ⟨fun c_s => t1_s (by omega), fun c3_s => ⟨fun c_s => t1_s (by omega), fun c4_s => fun _ => ?_⟩⟩, fun c_s => t1_s (by omega)⟩⟩
  have z1 := azix (i := x1_s) (by omega)
  have hi_s : zix x1_s < ni := by omega
  have t2_s := t2_s (zix x1_s) z1.symm hi_s (by omega) (by omega)
  generalize zix x1_s = i_s at hi_s z1 t2_s
  have hcw := tC_cw hc_s hi_s
  refine sp_43 (o := owI f_s i_s) hk hcw.1 (tC_oB hc_s hi_s) (fun v_s f1_s g1 g2 _ _ => ?_)
  have fr_s : ∀ a_s k_s, ¬ (a_s = 20 + i_s ∧ k_s < 6) → f1_s a_s k_s = f_s a_s k_s := fun a_s k_s q_s => g2 a_s k_s (by omega)
  refine ⟨fun _ => t2_s 0 _ (fun k_s hk6 => ?_) (fun a_s k_s q1_s q2_s => ?_), fun _ => t2_s 1 _ (fun k_s hk6 => ?_) (fun a_s k_s q1_s q2_s => ?_)⟩
  · dsimp only
    rw [zne_up (by omega)]
    exact g1 k_s hk6
  · dsimp only
    rw [zne_up (by omega)]
    exact fr_s a_s k_s q1_s
  · dsimp only
    rw [zne_up (by omega)]
    exact g1 k_s hk6
  · dsimp only
    rw [zne_up (by omega)]
    exact fr_s a_s k_s q1_s
theorem sp_211 (hk : hKn h_s) (hc_s : tM nh ni nr f_s) (t1_s : ¬ okS ni x1_s x2_s → K_s (-1) (h_s.1, f_s, h_s.2.2.1, h_s.2.2.2)) (t2_s : ∀ i_s : Nat, x1_s.toInt = (i_s : Int) → i_s < ni → 0 ≤ x2_s.toInt → x2_s.toInt ≤ 3 → ∀ v_s f1_s, (∀ k_s, k_s < 6 → f1_s 103 (12 + 8 * k_s + i_s) = stO x2_s.toInt (owI f_s i_s) k_s) → (∀ a_s k_s, ¬ a_s = 112 → ¬ (a_s = 103 ∧ 12 ≤ k_s ∧ k_s < 60 ∧ (k_s - 12) % 8 = i_s) → ¬ (a_s = 119 ∧ k_s < 2) → f1_s a_s k_s = f_s a_s k_s) → K_s v_s (h_s.1, f1_s, h_s.2.2.1, h_s.2.2.2)) : wF F_s 211 (0, [some (.ref 102), some (.int x1_s), some (.int x2_s), none], [], (h_s.1, f_s, h_s.2.2.1, h_s.2.2.2)) (gI K_s) := by
  have e7_s := sb1 hc_s.2.1.2.1
  have b_s := hc_s.1
  unfold okS at t1_s
  refine wF_le (Nat.le_succ F_s) (sg_211_0 (h_s := (h_s.1, f_s, h_s.2.2.1, h_s.2.2.2)) hk ?_)
  dsimp only
  rw [e7_s]
  refine ⟨fun c_s => t1_s (by omega), fun c1_s => ⟨fun c_s => t1_s (by omega), fun c2_s => ⟨fun c_s => t1_s (by omega), fun c3_s => ⟨fun c_s => t1_s (by omega), fun c4_s => ?_⟩⟩⟩⟩
  have hi_s : x1_s.toInt.toNat < ni := by omega
  have h1 : x1_s.toInt = (x1_s.toInt.toNat : Int) := by omega
  have t2_s := t2_s x1_s.toInt.toNat h1 hi_s (by omega) (by omega)
  generalize x1_s.toInt.toNat = i_s at hi_s h1 t2_s
  have hB_s := tM_oB hc_s hi_s
  refine sp_178 hk h1 (by omega) (tM_hd hc_s hi_s).1 (fun f1_s g1 g2 hk1 => ?_)
  refine sp_184 (h_s := (h_s.1, f1_s, h_s.2.2.1, h_s.2.2.2)) (o := owI f_s i_s) hk1 (by omega) g1 hB_s (fun v_s f2_s p1_s p2_s hk2 => ?_)
  refine sp_210 (h_s := (h_s.1, f2_s, h_s.2.2.1, h_s.2.2.2)) hk2 h1 (by omega) (fun f3_s s1_s s2_s _ => ?_)
  have fin_s : ∀ (u_s : Int32) (k3_s : Nat) (v3 : Int32), k3_s < 2 → K_s u_s (h_s.1, zup f3_s 119 k3_s v3, h_s.2.2.1, h_s.2.2.2) := fun u_s k3_s v3 hk3 => by
    refine t2_s u_s _ (fun k_s hk6 => ?_) (fun a_s k_s q1_s q2_s q3_s => ?_)
    · rw [zne_up (by omega), s1_s k_s hk6]
      exact p1_s k_s (by omega)
    · rw [zne_up (by omega), s2_s a_s k_s q2_s, p2_s a_s k_s q1_s, g2 a_s k_s q1_s]
  exact ⟨fun _ => fin_s 0 1 _ (by omega), fun _ => fin_s 1 0 _ (by omega)⟩
theorem pr_stroke (hk : hKn h_s) (hx : tX h_s) : wF F_s 117 (0, [some (.ref 6), some (.int x1_s), some (.int x2_s), none], [], h_s) (gI (fun v_s h1 => wF F_s 211 (0, [some (.ref 102), some (.int x1_s), some (.int x2_s), none], [], h1) (gI (fun v2 h2 => tX h2)))) := by
  obtain ⟨nh, ni, nr, hc_s, hh, hi_, hd_s, hz, hl⟩ := hx
  have hx : tX h_s := ⟨nh, ni, nr, hc_s, hh, hi_, hd_s, hz, hl⟩
  have b_s := hc_s.1
  refine sp_117 (f_s := h_s.2.1) hk hc_s (fun w_s => ?_) (fun i_s e1_s hi_s w0_s w3_s v_s f1_s g1 g2 => ?_)
  · refine sp_211 (f_s := h_s.2.1) hk (tC_M hc_s) (fun _ => hx) (fun i_s e1_s hi_s w0_s w3_s => ?_)
    exact absurd (show okS ni x1_s x2_s by unfold okS; omega) w_s
  · have ho : ∀ a_s k_s, 100 ≤ a_s → f1_s a_s k_s = h_s.2.1 a_s k_s := fun a_s k_s ha_s => g2 a_s k_s (by omega) (by omega)
    have eo : owI f1_s i_s = owI h_s.2.1 i_s := by
      funext k_s
      unfold owI
      rw [ho 103 _ (by omega), ho 103 _ (by omega), ho 103 _ (by omega)]
    have m1_s : tM nh ni nr f1_s := tM_fr (fun k_s _ _ => ho _ _ (by omega)) (fun k_s _ => ho _ _ (by omega)) (tC_M hc_s)
    refine sp_211 (h_s := (h_s.1, f1_s, h_s.2.2.1, h_s.2.2.2)) (f_s := f1_s) hk m1_s (fun u_s => absurd (show okS ni x1_s x2_s by unfold okS; omega) u_s) (fun i1_s d1_s hi1 _ _ v2 f2_s p1_s p2_s => ?_)
    have ei : i1_s = i_s := by omega
    subst ei
    rw [eo] at p1_s
    refine tX_upI (o := stO x2_s.toInt (owI h_s.2.1 i1_s)) hc_s hh hi_ hz hl (by omega) (fun k_s hk6 => ⟨?_, p1_s k_s hk6⟩) (st_B (tC_oB hc_s hi_s)) (fun k_s k2_s k4_s => ?_) (fun _ => rfl) (fun a_s k_s qx s1_s s2_s s3_s => ?_)
    · show f2_s (20 + i1_s) k_s = _
      rw [p2_s _ _ (by omega) (by omega) (by omega)]
      exact g1 k_s hk6
    · show f2_s 73 k_s = f2_s 119 k_s
      rw [p2_s 73 k_s (by omega) (by omega) (by omega), p2_s 119 k_s (by omega) (by omega) (by omega), g2 73 k_s (by omega) (by omega), g2 119 k_s (by omega) (by omega)]
      exact hd_s k_s k2_s k4_s
    · show f2_s a_s k_s = h_s.2.1 a_s k_s
      have n1_s := inX_no qx
      have n2_s : ¬ (a_s = 119 ∧ k_s < 2) ∧ ¬ (a_s = 73 ∧ k_s < 2) := by
        unfold inX inC inH inI inD inZ inW at qx
        omega
      rw [p2_s a_s k_s (by omega) s2_s n2_s.1]
      exact g2 a_s k_s s1_s n2_s.2
/-- head -/
theorem tC_head {f2_s : Nat → Nat → Int32} (hc_s : tC nh ni nr f_s) (hn : nh < 6) (b0 : 0 ≤ x1_s.toInt) (b5 : x1_s.toInt ≤ 5) (e1_s : f2_s 8 nh = x1_s) (e2_s : f2_s 9 nh = 6) (e3_s : (f2_s 7 6).toInt = ((nh + 1 : Nat) : Int)) (e4_s : f2_s 103 nh = x1_s) (e5_s : f2_s 103 (6 + nh) = 6) (e6_s : (f2_s 102 6).toInt = ((nh + 1 : Nat) : Int)) (hf : ∀ a_s k_s, ¬ ((a_s = 8 ∨ a_s = 9) ∧ k_s = nh) → ¬ (a_s = 7 ∧ k_s = 6) → ¬ (a_s = 103 ∧ (k_s = nh ∨ k_s = 6 + nh)) → ¬ (a_s = 102 ∧ k_s = 6) → f2_s a_s k_s = f_s a_s k_s) : tC (nh + 1) ni nr f2_s := by
  obtain ⟨a0_s, ⟨a1_s, a2, a3⟩, ⟨a4, a5, a6⟩, a7, a8, a9⟩ := hc_s
  refine ⟨⟨by omega, a0_s.2⟩, ⟨e3_s, ?_, ?_⟩, ⟨e6_s, ?_, ?_⟩, fun n_s w_s hw hnc h8 => ?_, fun j_s j1 j2_s => ?_, fun r_s hr => ?_⟩
  · rw [hf 7 7 (by omega) (by omega) (by omega) (by omega)]
    exact a2
  · rw [hf 7 8 (by omega) (by omega) (by omega) (by omega)]
    exact a3
  · rw [hf 102 7 (by omega) (by omega) (by omega) (by omega)]
    exact a5
  · rw [hf 102 8 (by omega) (by omega) (by omega) (by omega)]
    exact a6
  · have u_s := a7 n_s w_s hw hnc h8
    by_cases w2_s : w_s < 2
    · rw [cap_h w2_s] at hnc
      rw [cO_h w2_s, cF_h w2_s, plc_h w2_s] at u_s ⊢
      by_cases e_s : n_s = nh
      · subst e_s
        have ew : w_s = 0 ∨ w_s = 1 := by omega
        rcases ew with e_s | e_s
        · subst e_s
          rw [Nat.mul_zero, Nat.zero_add, vB_n (by omega)]
          have e1_s : f2_s (8 + 0) n_s = x1_s := e1_s
          rw [e1_s, e4_s]
          exact ⟨rfl, b0, b5, fun e9_s => absurd e9_s (by omega)⟩
        · subst e_s
          rw [Nat.mul_one, vB_n (by omega)]
          have e2_s : f2_s (8 + 1) n_s = 6 := e2_s
          rw [e2_s, e5_s]
          exact ⟨rfl, by decide, by decide, fun e9_s => absurd e9_s (by omega)⟩
      · rw [hf (8 + w_s) n_s (by omega) (by omega) (by omega) (by omega), hf 103 (6 * w_s + n_s) (by omega) (by omega) (by omega) (by omega)]
        exact ⟨u_s.1, vB_mono (Nat.le_succ nh) (Nat.le_refl nr) (fun e9_s => absurd e9_s (by omega)) u_s.2⟩
    · by_cases w9 : w_s < 9
      · rw [cap_i (by omega) w9] at hnc
        rw [cO_i (by omega) w9, cF_i (by omega) w9, plc_i (by omega) w9] at u_s ⊢
        rw [hf (20 + n_s) (w_s - 2) (by omega) (by omega) (by omega) (by omega), hf 103 (12 + 8 * (w_s - 2) + n_s) (by omega) (by omega) (by omega) (by omega)]
        exact ⟨u_s.1, vB_mono (Nat.le_succ nh) (Nat.le_refl nr) (fun e9_s => absurd e9_s (by omega)) u_s.2⟩
      · rw [cap_r (by omega)] at hnc
        rw [cO_r (by omega), cF_r (by omega), plc_r (by omega)] at u_s ⊢
        rw [hf (28 + n_s) (w_s - 7) (by omega) (by omega) (by omega) (by omega), hf 103 (68 + 12 * (w_s - 9) + n_s) (by omega) (by omega) (by omega) (by omega)]
        refine ⟨u_s.1, ?_⟩
        have u2_s := u_s.2
        rw [vB_n (by omega)] at u2_s ⊢
        exact u2_s
  · rw [hf (20 + j_s) 6 (by omega) (by omega) (by omega) (by omega)]
    exact a8 j_s j1 j2_s
  · rw [hf (28 + r_s) 0 (by omega) (by omega) (by omega) (by omega), hf (28 + r_s) 1 (by omega) (by omega) (by omega) (by omega), hf 107 r_s (by omega) (by omega) (by omega) (by omega), hf 108 r_s (by omega) (by omega) (by omega) (by omega)]
    exact a9 r_s hr
/-- idea -/
theorem tC_idea {f2_s : Nat → Nat → Int32} (hc_s : tC nh ni nr f_s) (hn : ni < 8) (b0 : 0 ≤ x1_s.toInt) (b3 : x1_s.toInt ≤ 3) (d0_s : 0 ≤ x2_s.toInt) (d5_s : x2_s.toInt ≤ 5) (e1_s : f2_s (20 + ni) 0 = x1_s) (e2_s : f2_s (20 + ni) 1 = x2_s) (e3_s : (f2_s 7 7).toInt = ((ni + 1 : Nat) : Int)) (e4_s : f2_s 103 (12 + ni) = x1_s) (e5_s : f2_s 103 (20 + ni) = x2_s) (e7_s : f2_s 103 (60 + ni) = -1) (e6_s : (f2_s 102 7).toInt = ((ni + 1 : Nat) : Int)) (hf : ∀ a_s k_s, ¬ (a_s = 20 + ni ∧ k_s < 2) → ¬ (a_s = 7 ∧ k_s = 7) → ¬ (a_s = 103 ∧ (k_s = 12 + ni ∨ k_s = 20 + ni ∨ k_s = 60 + ni)) → ¬ (a_s = 102 ∧ k_s = 7) → f2_s a_s k_s = f_s a_s k_s) : tC nh (ni + 1) nr f2_s := by
  obtain ⟨a0_s, ⟨a1_s, a2, a3⟩, ⟨a4, a5, a6⟩, a7, a8, a9⟩ := hc_s
  refine ⟨⟨a0_s.1, by omega, a0_s.2.2⟩, ⟨?_, e3_s, ?_⟩, ⟨?_, e6_s, ?_⟩, fun n_s w_s hw hnc h8 => ?_, fun j_s j1 j2_s => ?_, fun r_s hr => ?_⟩
  · rw [hf 7 6 (by omega) (by omega) (by omega) (by omega)]
    exact a1_s
  · rw [hf 7 8 (by omega) (by omega) (by omega) (by omega)]
    exact a3
  · rw [hf 102 6 (by omega) (by omega) (by omega) (by omega)]
    exact a4
  · rw [hf 102 8 (by omega) (by omega) (by omega) (by omega)]
    exact a6
  · by_cases w2_s : w_s < 2
    · have u_s := a7 n_s w_s hw hnc (fun e_s => absurd e_s (by omega))
      rw [cap_h w2_s] at hnc
      rw [cO_h w2_s, cF_h w2_s, plc_h w2_s] at u_s ⊢
      rw [hf (8 + w_s) n_s (by omega) (by omega) (by omega) (by omega), hf 103 (6 * w_s + n_s) (by omega) (by omega) (by omega) (by omega)]
      exact u_s
    · by_cases w9 : w_s < 9
      · by_cases e_s : n_s = ni ∧ (w_s = 2 ∨ w_s = 3 ∨ w_s = 8)
        · obtain ⟨e_s, ew⟩ := e_s
          subst e_s
          rw [cO_i (by omega) w9, cF_i (by omega) w9, plc_i (by omega) w9]
          rcases ew with e_s | e_s | e_s
          · subst e_s
            rw [vB_n (by omega)]
            have e1_s : f2_s (20 + n_s) (2 - 2) = x1_s := e1_s
            have e4_s : f2_s 103 (12 + 8 * (2 - 2) + n_s) = x1_s := e4_s
            rw [e1_s, e4_s]
            exact ⟨rfl, b0, b3, fun e9_s => absurd e9_s (by omega)⟩
          · subst e_s
            rw [vB_n (by omega)]
            have e2_s : f2_s (20 + n_s) (3 - 2) = x2_s := e2_s
            have e5_s : f2_s 103 (12 + 8 * (3 - 2) + n_s) = x2_s := e5_s
            rw [e2_s, e5_s]
            exact ⟨rfl, d0_s, d5_s, fun e9_s => absurd e9_s (by omega)⟩
          · subst e_s
            rw [vB_8]
            have e8 : f2_s (20 + n_s) (8 - 2) = -1 := by
              rw [hf _ _ (by omega) (by omega) (by omega) (by omega)]
              exact a8 n_s (Nat.le_refl n_s) hn
            have e7_s : f2_s 103 (12 + 8 * (8 - 2) + n_s) = -1 := e7_s
            rw [e8, e7_s]
            exact ⟨rfl, by decide, by rw [m1_]; omega⟩
        · have u_s := a7 n_s w_s hw hnc (fun e8 => by have := h8 e8; omega)
          rw [cap_i (by omega) w9] at hnc
          rw [cO_i (by omega) w9, cF_i (by omega) w9, plc_i (by omega) w9] at u_s ⊢
          rw [hf (20 + n_s) (w_s - 2) (by omega) (by omega) (by omega) (by omega), hf 103 (12 + 8 * (w_s - 2) + n_s) (by omega) (by omega) (by omega) (by omega)]
          exact u_s
      · have u_s := a7 n_s w_s hw hnc (fun e_s => absurd e_s (by omega))
        rw [cap_r (by omega)] at hnc
        rw [cO_r (by omega), cF_r (by omega), plc_r (by omega)] at u_s ⊢
        rw [hf (28 + n_s) (w_s - 7) (by omega) (by omega) (by omega) (by omega), hf 103 (68 + 12 * (w_s - 9) + n_s) (by omega) (by omega) (by omega) (by omega)]
        exact u_s
  · rw [hf (20 + j_s) 6 (by omega) (by omega) (by omega) (by omega)]
    exact a8 j_s (by omega) j2_s
  · rw [hf (28 + r_s) 0 (by omega) (by omega) (by omega) (by omega), hf (28 + r_s) 1 (by omega) (by omega) (by omega) (by omega), hf 107 r_s (by omega) (by omega) (by omega) (by omega), hf 108 r_s (by omega) (by omega) (by omega) (by omega)]
    exact a9 r_s hr
/-- all but the country's own cells stay -/
theorem tX_rest {nh1 ni1 nr1 : Nat} {h2 : zH} (h1 : nh ≤ nh1) (h3 : ni ≤ ni1) (h4 : nr ≤ nr1) (hc_s : tC nh1 ni1 nr1 h2.2.1) (hh : tH nh ni nr h_s.2.1) (hi_ : tI nh ni nr h_s.2.1) (hd_s : tD h_s.2.1) (hz : tZ h_s.2.1) (hl : tLw h_s) (hr : ∀ k_s, h2.2.2.2 7 k_s = h_s.2.2.2 7 k_s) (hf : ∀ a_s k_s, inH a_s k_s ∨ inI a_s k_s ∨ inD a_s k_s ∨ inZ a_s k_s ∨ inW a_s k_s → h2.2.1 a_s k_s = h_s.2.1 a_s k_s) : tX h2 :=
  ⟨nh1, ni1, nr1, hc_s, tH_fr (fun a_s k_s q_s => hf a_s k_s (Or.inl q_s)) (tH_mono h1 h4 h3 hh), tI_fr (fun a_s k_s q_s => hf a_s k_s (Or.inr (Or.inl q_s))) (tI_mono h1 h4 h3 hi_) hc_s.1.2.1, tD_fr (fun a_s k_s q_s => hf a_s k_s (Or.inr (Or.inr (Or.inl q_s)))) hd_s, tZ_fr (fun a_s k_s q_s => hf a_s k_s (Or.inr (Or.inr (Or.inr (Or.inl q_s))))) hz, tLw_fr hr (fun a_s k_s q_s => hf a_s k_s (Or.inr (Or.inr (Or.inr (Or.inr q_s))))) hl⟩
theorem ic1 {c_s : Int32} {n_s : Nat} (hc_s : c_s.toInt = (n_s : Int)) (hb_s : n_s ≤ 1000) : (c_s + 1).toInt = ((n_s + 1 : Nat) : Int) ∧ zix c_s = n_s ∧ c_s + 1 - 1 = c_s := by
  have e_s : (c_s + 1).toInt = c_s.toInt + 1 := in1_ (by omega)
  have z_s := azix (i := c_s) (by omega)
  refine ⟨by omega, by omega, Int32.toInt_inj.mp ?_⟩
  rw [sub_i (by omega) (by decide), n1_, e_s]
  omega
theorem pr_head (hk : hKn h_s) (hx : tX h_s) : wF F_s 93 (0, [some (.ref 6), some (.int x1_s)], [], h_s) (gI (fun v_s h1 => wF F_s 155 (0, [some (.ref 102), some (.int x1_s)], [], h1) (gI (fun v2 h2 => v_s = v2 ∧ tX h2)))) := by
  obtain ⟨nh, ni, nr, hc_s, hh, hi_, hd_s, hz, hl⟩ := hx
  have hx : tX h_s := ⟨nh, ni, nr, hc_s, hh, hi_, hd_s, hz, hl⟩
  have b_s := hc_s.1
  have e1_s := hc_s.2.1.1
  have e2_s := hc_s.2.2.1.1
  have ee : h_s.2.1 7 6 = h_s.2.1 102 6 := Int32.toInt_inj.mp (e1_s.trans e2_s.symm)
  obtain ⟨p1_s, p2_s, p3_s⟩ := ic1 e1_s (by omega)
  obtain ⟨q1_s, q2_s, q3_s⟩ := ic1 e2_s (by omega)
  have z6 : zix (6 + h_s.2.1 102 6) = 6 + nh := zxa (c_s := 6) (a_s := 6) rfl e2_s (by omega)
  refine wF_le (Nat.le_succ F_s) (sg_93_0 hk ⟨fun c1_s => ?_, fun c1_s => ⟨fun c2_s => ?_, fun c2_s => ⟨fun c3_s => fun c4_s => ?_, fun c3_s => ?_⟩⟩⟩)
  · exact wF_le (Nat.le_succ F_s) (sg_155_0 hk ⟨fun _ => ⟨rfl, hx⟩, fun c_s => absurd c1_s c_s⟩)
  · exact wF_le (Nat.le_succ F_s) (sg_155_0 hk ⟨fun c_s => absurd c_s c1_s, fun _ => ⟨fun _ => ⟨rfl, hx⟩, fun c_s => absurd c2_s c_s⟩⟩)
  · rw [p2_s]
    generalize hg : zup (zup (zup h_s.2.1 8 nh x1_s) 9 nh 6) 7 6 (h_s.2.1 7 6 + 1) = g_s
    have gf : ∀ a_s k_s, ¬ ((a_s = 8 ∨ a_s = 9) ∧ k_s = nh) → ¬ (a_s = 7 ∧ k_s = 6) → g_s a_s k_s = h_s.2.1 a_s k_s := fun a_s k_s w1_s w2_s => by rw [← hg, zne_up (by omega), zne_up (by omega), zne_up (by omega)]
    have e6_s : g_s 102 6 = h_s.2.1 102 6 := gf 102 6 (by omega) (by omega)
    refine wF_le (Nat.le_succ F_s) (sg_155_0 (h_s := (h_s.1, g_s, h_s.2.2.1, h_s.2.2.2)) hk ?_)
    dsimp only
    rw [e6_s, q2_s, z6, q3_s, e2_s]
    refine ⟨fun c_s => absurd c_s c1_s, fun _ => ⟨fun c_s => absurd c_s c2_s, fun _ => ⟨fun c_s => absurd c_s (by omega), fun _ => fun _ => fun _ => ⟨ee, ?_⟩⟩⟩⟩
    refine tX_rest (h_s := h_s) (nh1 := nh + 1) (Nat.le_succ nh) (Nat.le_refl ni) (Nat.le_refl nr) (tC_head (x1_s := x1_s) hc_s (by omega) (by omega) (by omega) ?_ ?_ ?_ ?_ ?_ ?_ (fun a_s k_s w1_s w2_s w3_s w4_s => ?_)) hh hi_ hd_s hz hl (fun _ => rfl) (fun a_s k_s w_s => ?_)
    · dsimp only
      rw [zne_up (by omega), zne_up (by omega), zne_up (by omega), ← hg, zne_up (by omega), zne_up (by omega), zsame_up]
    · dsimp only
      rw [zne_up (by omega), zne_up (by omega), zne_up (by omega), ← hg, zne_up (by omega), zsame_up]
    · dsimp only
      rw [zne_up (by omega), zne_up (by omega), zne_up (by omega), ← hg, zsame_up]
      exact p1_s
    · dsimp only
      rw [zne_up (by omega), zne_up (by omega), zsame_up]
    · dsimp only
      rw [zne_up (by omega), zsame_up]
    · dsimp only
      rw [zsame_up]
      exact q1_s
    · dsimp only
      rw [zne_up (by omega), zne_up (by omega), zne_up (by omega)]
      exact gf a_s k_s w1_s w2_s
    · dsimp only
      unfold inH inI inD inZ inW at w_s
      rw [zne_up (by omega), zne_up (by omega), zne_up (by omega)]
      exact gf a_s k_s (by omega) (by omega)
  · refine wF_le (Nat.le_succ F_s) (sg_155_0 hk ⟨fun c_s => absurd c_s c1_s, fun _ => ⟨fun c_s => absurd c_s c2_s, fun _ => ⟨fun _ => ⟨rfl, hx⟩, fun c_s => ?_⟩⟩⟩)
    omega
theorem pr_idea (hk : hKn h_s) (hx : tX h_s) : wF F_s 94 (0, [some (.ref 6), some (.int x1_s), some (.int x2_s), none], [], h_s) (gI (fun v_s h1 => wF F_s 156 (0, [some (.ref 102), some (.int x1_s), some (.int x2_s)], [], h1) (gI (fun v2 h2 => v_s = v2 ∧ tX h2)))) := by
  obtain ⟨nh, ni, nr, hc_s, hh, hi_, hd_s, hz, hl⟩ := hx
  have hx : tX h_s := ⟨nh, ni, nr, hc_s, hh, hi_, hd_s, hz, hl⟩
  have b_s := hc_s.1
  have e1_s := hc_s.2.1.2.1
  have e2_s := hc_s.2.2.1.2.1
  have ee : h_s.2.1 7 7 = h_s.2.1 102 7 := Int32.toInt_inj.mp (e1_s.trans e2_s.symm)
  obtain ⟨p1_s, p2_s, p3_s⟩ := ic1 e1_s (by omega)
  obtain ⟨q1_s, q2_s, q3_s⟩ := ic1 e2_s (by omega)
  have z12 : zix (12 + h_s.2.1 102 7) = 12 + ni := zxa (c_s := 12) (a_s := 12) rfl e2_s (by omega)
  have z20 : zix (20 + h_s.2.1 102 7) = 20 + ni := zxa (c_s := 20) (a_s := 20) rfl e2_s (by omega)
  have z60_s : zix (60 + h_s.2.1 102 7) = 60 + ni := zxa (c_s := 60) (a_s := 60) rfl e2_s (by omega)
  refine wF_le (Nat.le_succ F_s) (sg_94_0 hk ⟨fun c1_s => ?_, fun c1_s => ⟨fun c2_s => ?_, fun c2_s => ⟨fun c3_s => ?_, fun c3_s => ⟨fun c4_s => ?_, fun c4_s => ⟨fun c5_s => fun c6_s => ?_, fun c5_s => ?_⟩⟩⟩⟩⟩)
  · exact wF_le (Nat.le_succ F_s) (sg_156_0 hk ⟨fun _ => ⟨rfl, hx⟩, fun c_s => absurd c1_s c_s⟩)
  · exact wF_le (Nat.le_succ F_s) (sg_156_0 hk ⟨fun c_s => absurd c_s c1_s, fun _ => ⟨fun _ => ⟨rfl, hx⟩, fun c_s => absurd c2_s c_s⟩⟩)
  · exact wF_le (Nat.le_succ F_s) (sg_156_0 hk ⟨fun c_s => absurd c_s c1_s, fun _ => ⟨fun c_s => absurd c_s c2_s, fun _ => ⟨fun _ => ⟨rfl, hx⟩, fun c_s => absurd c3_s c_s⟩⟩⟩)
  · exact wF_le (Nat.le_succ F_s) (sg_156_0 hk ⟨fun c_s => absurd c_s c1_s, fun _ => ⟨fun c_s => absurd c_s c2_s, fun _ => ⟨fun c_s => absurd c_s c3_s, fun _ => ⟨fun _ => ⟨rfl, hx⟩, fun c_s => absurd c4_s c_s⟩⟩⟩⟩)
  · rw [p2_s]
    have r7 : ∀ v1_s v2 : Int32, zup (zup h_s.2.1 (20 + ni) 0 v1_s) (20 + ni) 1 v2 7 7 = h_s.2.1 7 7 := fun v1_s v2 => by rw [zne_up (by omega), zne_up (by omega)]
    rw [r7]
    generalize hg : zup (zup (zup h_s.2.1 (20 + ni) 0 x1_s) (20 + ni) 1 x2_s) 7 7 (h_s.2.1 7 7 + 1) = g_s
    have gf : ∀ a_s k_s, ¬ (a_s = 20 + ni ∧ k_s < 2) → ¬ (a_s = 7 ∧ k_s = 7) → g_s a_s k_s = h_s.2.1 a_s k_s := fun a_s k_s w1_s w2_s => by rw [← hg, zne_up (by omega), zne_up (by omega), zne_up (by omega)]
    have e6_s : g_s 102 7 = h_s.2.1 102 7 := gf 102 7 (by omega) (by omega)
    refine wF_le (Nat.le_succ F_s) (sg_156_0 (h_s := (h_s.1, g_s, h_s.2.2.1, h_s.2.2.2)) hk ?_)
    dsimp only
    rw [e6_s, z12, z20, z60_s, q3_s, e2_s]
    refine ⟨fun c_s => absurd c_s c1_s, fun _ => ⟨fun c_s => absurd c_s c2_s, fun _ => ⟨fun c_s => absurd c_s c3_s, fun _ => ⟨fun c_s => absurd c_s c4_s, fun _ => ⟨fun c_s => absurd c_s (by omega), fun _ => fun _ => fun _ => fun _ => ⟨ee, ?_⟩⟩⟩⟩⟩⟩
    refine tX_rest (h_s := h_s) (ni1 := ni + 1) (Nat.le_refl nh) (Nat.le_succ ni) (Nat.le_refl nr) (tC_idea (x1_s := x1_s) (x2_s := x2_s) hc_s (by omega) (by omega) (by omega) (by omega) (by omega) ?_ ?_ ?_ ?_ ?_ ?_ ?_ (fun a_s k_s w1_s w2_s w3_s w4_s => ?_)) hh hi_ hd_s hz hl (fun _ => rfl) (fun a_s k_s w_s => ?_)
    · dsimp only
      rw [zne_up (by omega), zne_up (by omega), zne_up (by omega), zne_up (by omega), ← hg, zne_up (by omega), zne_up (by omega), zsame_up]
    · dsimp only
      rw [zne_up (by omega), zne_up (by omega), zne_up (by omega), zne_up (by omega), ← hg, zne_up (by omega), zsame_up]
    · dsimp only
      rw [zne_up (by omega), zne_up (by omega), zne_up (by omega), zne_up (by omega), ← hg, zsame_up]
      exact p1_s
    · dsimp only
      rw [zne_up (by omega), zne_up (by omega), zne_up (by omega), zsame_up]
    · dsimp only
      rw [zne_up (by omega), zne_up (by omega), zsame_up]
    · dsimp only
      rw [zne_up (by omega), zsame_up]
    · dsimp only
      rw [zsame_up]
      exact q1_s
    · dsimp only
      rw [zne_up (by omega), zne_up (by omega), zne_up (by omega), zne_up (by omega)]
      exact gf a_s k_s w1_s w2_s
    · dsimp only
      unfold inH inI inD inZ inW at w_s
      rw [zne_up (by omega), zne_up (by omega), zne_up (by omega), zne_up (by omega)]
      exact gf a_s k_s (by omega) (by omega)
  · refine wF_le (Nat.le_succ F_s) (sg_156_0 hk ⟨fun c_s => absurd c_s c1_s, fun _ => ⟨fun c_s => absurd c_s c2_s, fun _ => ⟨fun c_s => absurd c_s c3_s, fun _ => ⟨fun c_s => absurd c_s c4_s, fun _ => ⟨fun _ => ⟨rfl, hx⟩, fun c_s => ?_⟩⟩⟩⟩⟩)
    omega
end S4
/-! AN IMAGE, and it is laid back. -/
section S5
variable {F_s : Nat} {h_s : zH} {K_s : Int32 → zH → Prop} {V : zH → Prop} {nh ni nr d_s e_s : Nat} {x1_s x2_s : Int32} {f_s : Nat → Nat → Int32}
theorem sp_35 (hk : hKn h_s) (hne : ¬ e_s = d_s) (t_s : ∀ f1_s, (∀ k_s, k_s < 7 → f1_s d_s k_s = f_s e_s k_s) → (∀ a_s k_s, ¬ (a_s = d_s ∧ k_s < 7) → f1_s a_s k_s = f_s a_s k_s) → V (h_s.1, f1_s, h_s.2.2.1, h_s.2.2.2)) : wF F_s 35 (0, [some (.ref d_s), some (.ref e_s)], [], (h_s.1, f_s, h_s.2.2.1, h_s.2.2.2)) (gV V) := by
  have r_s : ∀ (g_s : Nat → Nat → Int32) (j_s k_s : Nat) (v_s : Int32), zup g_s d_s j_s v_s e_s k_s = g_s e_s k_s := fun _ _ _ _ => zne_up (fun w_s => hne w_s.1)
  refine wF_le (Nat.le_succ F_s) (sg_35_0 (h_s := (h_s.1, f_s, h_s.2.2.1, h_s.2.2.2)) hk ?_)
  dsimp only
  simp only [r_s]
  refine t_s _ (fun k_s hk7 => ?_) (fun a_s k_s q_s => ?_)
  · have e7_s : k_s = 0 ∨ k_s = 1 ∨ k_s = 2 ∨ k_s = 3 ∨ k_s = 4 ∨ k_s = 5 ∨ k_s = 6 := by omega
    rcases e7_s with e_s | e_s | e_s | e_s | e_s | e_s | e_s <;> (subst e_s; simp (disch := omega) only [zne_up, zsame_up])
  · rw [zne_up (by omega), zne_up (by omega), zne_up (by omega), zne_up (by omega), zne_up (by omega), zne_up (by omega), zne_up (by omega)]
theorem sp_36 (hk : hKn h_s) (hne : ¬ e_s = d_s) (t_s : ∀ f1_s, (∀ k_s, k_s < 7 → ¬ k_s = 0 → ¬ k_s = 4 → f1_s d_s k_s = f_s e_s k_s) → (∀ a_s k_s, ¬ (a_s = d_s ∧ k_s < 7 ∧ ¬ k_s = 0 ∧ ¬ k_s = 4) → f1_s a_s k_s = f_s a_s k_s) → V (h_s.1, f1_s, h_s.2.2.1, h_s.2.2.2)) : wF F_s 36 (0, [some (.ref d_s), some (.ref e_s)], [], (h_s.1, f_s, h_s.2.2.1, h_s.2.2.2)) (gV V) := by
  have r_s : ∀ (g_s : Nat → Nat → Int32) (j_s k_s : Nat) (v_s : Int32), zup g_s d_s j_s v_s e_s k_s = g_s e_s k_s := fun _ _ _ _ => zne_up (fun w_s => hne w_s.1)
  refine wF_le (Nat.le_succ F_s) (sg_36_0 (h_s := (h_s.1, f_s, h_s.2.2.1, h_s.2.2.2)) hk ?_)
  dsimp only
  simp only [r_s]
  refine t_s _ (fun k_s hk7 k0_s k4_s => ?_) (fun a_s k_s q_s => ?_)
  · have e7_s : k_s = 1 ∨ k_s = 2 ∨ k_s = 3 ∨ k_s = 5 ∨ k_s = 6 := by omega
    rcases e7_s with e_s | e_s | e_s | e_s | e_s <;> (subst e_s; simp (disch := omega) only [zne_up, zsame_up])
  · rw [zne_up (by omega), zne_up (by omega), zne_up (by omega), zne_up (by omega), zne_up (by omega)]
/-- image, the class -/
theorem im121 {f0_s : Nat → Nat → Int32} (hk : hKn h_s) (hn : (f0_s 7 7).toInt = (ni : Int)) (hb_s : ni ≤ 8) (t_s : ∀ f1_s, (∀ i_s k_s, i_s < ni → k_s < 7 → f1_s (94 + i_s) k_s = f0_s (20 + i_s) k_s) → (∀ k_s, k_s < 5 → f1_s 75 k_s = f0_s 73 k_s) → f1_s 6 12 = f0_s 7 7 → (∀ a_s k_s, ¬ (94 ≤ a_s ∧ a_s < 102 ∧ k_s < 7) → ¬ (a_s = 75 ∧ k_s < 5) → ¬ (a_s = 6 ∧ k_s = 12) → f1_s a_s k_s = f0_s a_s k_s) → K_s (f0_s 73 3) (h_s.1, f1_s, h_s.2.2.1, h_s.2.2.2)) : ∀ (F_s j_s : Nat) (x1_s : Int32) (f_s : Nat → Nat → Int32), x1_s.toInt = (j_s : Int) → j_s ≤ ni → (∀ i_s k_s, i_s < j_s → k_s < 7 → f_s (94 + i_s) k_s = f0_s (20 + i_s) k_s) → (∀ a_s k_s, ¬ (94 ≤ a_s ∧ a_s < 102 ∧ k_s < 7) → f_s a_s k_s = f0_s a_s k_s) → wF F_s 121 (2, [some (.ref 6), some (.int x1_s)], [], (h_s.1, f_s, h_s.2.2.1, h_s.2.2.2)) (gI K_s)
  | 0, _, _, _, _, _, _, _ => wF_zero
  | F_s + 1, j_s, x1_s, f_s, hx, hj, hf, hg => by
    have z_s := azix (i := x1_s) (by omega)
    have ez : zix x1_s = j_s := by omega
    have e77 : f_s 7 7 = f0_s 7 7 := hg 7 7 (by omega)
    refine sg_121_2 (h_s := (h_s.1, f_s, h_s.2.2.1, h_s.2.2.2)) hk ?_
    dsimp only
    rw [ez, e77, hn]
    refine ⟨fun c1_s _ => ?_, fun c1_s _ => ?_⟩
    · refine sp_35 hk (by omega) (fun f1_s g1 g2 _ => ?_)
      refine im121 (f0_s := f0_s) hk hn hb_s t_s F_s (j_s + 1) (x1_s + 1) f1_s (by rw [in1_ (by omega)]; omega) (by omega) (fun i_s k_s hi_s hk7 => ?_) (fun a_s k_s q_s => ?_)
      · by_cases e_s : i_s = j_s
        · rw [e_s, g1 k_s hk7]
          exact hg _ _ (by omega)
        · rw [g2 _ _ (by omega)]
          exact hf i_s k_s (by omega) hk7
      · rw [g2 _ _ (by omega)]
        exact hg a_s k_s q_s
    · have ej : j_s = ni := by omega
      subst ej
      have e73 : ∀ k_s, f_s 73 k_s = f0_s 73 k_s := fun k_s => hg 73 k_s (by omega)
      rw [e73 3]
      refine t_s _ (fun i_s k_s hi_s hk7 => ?_) (fun k_s hk5 => ?_) ?_ (fun a_s k_s q1_s q2_s q3_s => ?_)
      · rw [zne_up (by omega), zrw_n (by omega)]
        exact hf i_s k_s hi_s hk7
      · rw [zne_up (by omega), zrw_s, zcp_i (by omega)]
        rw [show 0 + (k_s - 0) = k_s by omega]
        exact e73 k_s
      · rw [zsame_up]
      · rw [zne_up (by omega)]
        by_cases e_s : a_s = 75
        · subst e_s
          rw [zrw_s, zcp_o (by omega)]
          exact hg 75 k_s (by omega)
        · rw [zrw_n e_s]
          exact hg a_s k_s q1_s
theorem sp_121 (hk : hKn h_s) (hn : (f_s 7 7).toInt = (ni : Int)) (hb_s : ni ≤ 8) (t_s : ∀ f1_s, (∀ i_s k_s, i_s < ni → k_s < 7 → f1_s (94 + i_s) k_s = f_s (20 + i_s) k_s) → (∀ k_s, k_s < 5 → f1_s 75 k_s = f_s 73 k_s) → f1_s 6 12 = f_s 7 7 → (∀ a_s k_s, ¬ (94 ≤ a_s ∧ a_s < 102 ∧ k_s < 7) → ¬ (a_s = 75 ∧ k_s < 5) → ¬ (a_s = 6 ∧ k_s = 12) → f1_s a_s k_s = f_s a_s k_s) → K_s (f_s 73 3) (h_s.1, f1_s, h_s.2.2.1, h_s.2.2.2)) : wF F_s 121 (0, [some (.ref 6), none], [], (h_s.1, f_s, h_s.2.2.1, h_s.2.2.2)) (gI K_s) := wF_le (Nat.le_succ F_s) (sg_121_0 (h_s := (h_s.1, f_s, h_s.2.2.1, h_s.2.2.2)) hk (im121 hk hn hb_s t_s F_s 0 0 f_s rfl (Nat.zero_le _) (fun i_s k_s hi_s _ => absurd hi_s (Nat.not_lt_zero i_s)) (fun _ _ _ => rfl)))
/-- image, the reference -/
theorem im215b {f0_s : Nat → Nat → Int32} (hk : hKn h_s) (t_s : ∀ f1_s, (∀ k_s, k_s < 5 → f1_s 121 k_s = f0_s 119 k_s) → (∀ a_s k_s, ¬ (a_s = 121 ∧ k_s < 5) → f1_s a_s k_s = f0_s a_s k_s) → K_s (f0_s 119 3) (h_s.1, f1_s, h_s.2.2.1, h_s.2.2.2)) : ∀ (F_s j_s : Nat) (x1_s : Int32) (f_s : Nat → Nat → Int32), x1_s.toInt = (j_s : Int) → j_s ≤ 5 → (∀ k_s, k_s < j_s → f_s 121 k_s = f0_s 119 k_s) → (∀ a_s k_s, ¬ (a_s = 121 ∧ k_s < 5) → f_s a_s k_s = f0_s a_s k_s) → wF F_s 215 (41, [some (.ref 102), some (.int x1_s)], [], (h_s.1, f_s, h_s.2.2.1, h_s.2.2.2)) (gI K_s)
  | 0, _, _, _, _, _, _, _ => wF_zero
  | F_s + 1, j_s, x1_s, f_s, hx, hj, hf, hg => by
    have z_s := azix (i := x1_s) (by omega)
    have ez : zix x1_s = j_s := by omega
    refine sg_215_41 (h_s := (h_s.1, f_s, h_s.2.2.1, h_s.2.2.2)) hk ?_
    dsimp only
    rw [ez, hg 119 j_s (by omega), hg 119 3 (by omega)]
    refine ⟨fun c1_s _ => ?_, fun c1_s => ?_⟩
    · refine im215b (f0_s := f0_s) hk t_s F_s (j_s + 1) (x1_s + 1) _ (by rw [in1_ (by omega)]; omega) (by omega) (fun k_s hk1 => ?_) (fun a_s k_s q_s => ?_)
      · by_cases e_s : k_s = j_s
        · rw [e_s, zsame_up]
        · rw [zne_up (by omega)]
          exact hf k_s (by omega)
      · rw [zne_up (by omega)]
        exact hg a_s k_s q_s
    · have ej : j_s = 5 := by omega
      subst ej
      exact t_s f_s hf hg
theorem im215a {f0_s : Nat → Nat → Int32} (hk : hKn h_s) (t_s : ∀ f1_s, (∀ k_s, k_s < 104 → f1_s 120 k_s = f0_s 103 k_s) → (∀ k_s, k_s < 5 → f1_s 121 k_s = f0_s 119 k_s) → (∀ a_s k_s, ¬ (a_s = 120 ∧ k_s < 104) → ¬ (a_s = 121 ∧ k_s < 5) → f1_s a_s k_s = f0_s a_s k_s) → K_s (f0_s 119 3) (h_s.1, f1_s, h_s.2.2.1, h_s.2.2.2)) : ∀ (F_s j_s : Nat) (x1_s : Int32) (f_s : Nat → Nat → Int32), x1_s.toInt = (j_s : Int) → j_s ≤ 104 → (∀ k_s, k_s < j_s → f_s 120 k_s = f0_s 103 k_s) → (∀ a_s k_s, ¬ (a_s = 120 ∧ k_s < 104) → f_s a_s k_s = f0_s a_s k_s) → wF F_s 215 (15, [some (.ref 102), some (.int x1_s)], [], (h_s.1, f_s, h_s.2.2.1, h_s.2.2.2)) (gI K_s)
  | 0, _, _, _, _, _, _, _ => wF_zero
  | F_s + 1, j_s, x1_s, f_s, hx, hj, hf, hg => by
    have z_s := azix (i := x1_s) (by omega)
    have ez : zix x1_s = j_s := by omega
    refine sg_215_15 (h_s := (h_s.1, f_s, h_s.2.2.1, h_s.2.2.2)) hk ?_
    dsimp only
    rw [ez, hg 103 j_s (by omega)]
    refine ⟨fun c1_s _ => ?_, fun c1_s => ?_⟩
    · refine im215a (f0_s := f0_s) hk t_s F_s (j_s + 1) (x1_s + 1) _ (by rw [in1_ (by omega)]; omega) (by omega) (fun k_s hk1 => ?_) (fun a_s k_s q_s => ?_)
      · by_cases e_s : k_s = j_s
        · rw [e_s, zsame_up]
        · rw [zne_up (by omega)]
          exact hf k_s (by omega)
      · rw [zne_up (by omega)]
        exact hg a_s k_s q_s
    · have ej : j_s = 104 := by omega
      subst ej
      have e119 : ∀ k_s, f_s 119 k_s = f0_s 119 k_s := fun k_s => hg 119 k_s (by omega)
      refine im215b (f0_s := f_s) hk (fun f1_s g1 g2 => ?_) F_s 0 0 f_s rfl (Nat.zero_le _) (fun k_s hq => absurd hq (Nat.not_lt_zero k_s)) (fun _ _ _ => rfl)
      rw [e119]
      refine t_s f1_s (fun k_s hk1 => ?_) (fun k_s hk5 => ?_) (fun a_s k_s q1_s q2_s => ?_)
      · rw [g2 _ _ (by omega)]
        exact hf k_s hk1
      · rw [g1 k_s hk5]
        exact e119 k_s
      · rw [g2 a_s k_s q2_s]
        exact hg a_s k_s q1_s
theorem sp_215 (hk : hKn h_s) (t_s : ∀ f1_s, (∀ k_s, k_s < 104 → f1_s 120 k_s = f_s 103 k_s) → (∀ k_s, k_s < 5 → f1_s 121 k_s = f_s 119 k_s) → f1_s 102 36 = f_s 102 7 → f1_s 102 35 = 1 → (∀ a_s k_s, ¬ (a_s = 120 ∧ k_s < 104) → ¬ (a_s = 121 ∧ k_s < 5) → ¬ (a_s = 102 ∧ (k_s = 35 ∨ k_s = 36)) → f1_s a_s k_s = f_s a_s k_s) → K_s (f_s 119 3) (h_s.1, f1_s, h_s.2.2.1, h_s.2.2.2)) : wF F_s 215 (0, [some (.ref 102), none], [], (h_s.1, f_s, h_s.2.2.1, h_s.2.2.2)) (gI K_s) := by
  refine wF_le (Nat.le_succ F_s) (sg_215_0 (h_s := (h_s.1, f_s, h_s.2.2.1, h_s.2.2.2)) hk ?_)
  dsimp only
  have e3_s : ∀ k_s, zup (zup f_s 102 35 1) 102 36 (f_s 102 7) 119 k_s = f_s 119 k_s := fun k_s => by rw [zne_up (by omega), zne_up (by omega)]
  refine im215a (f0_s := zup (zup f_s 102 35 1) 102 36 (f_s 102 7)) hk (fun f1_s g1 g2 g3_s => ?_) F_s 0 0 _ rfl (Nat.zero_le _) (fun k_s hq => absurd hq (Nat.not_lt_zero k_s)) (fun _ _ _ => rfl)
  rw [e3_s]
  refine t_s f1_s (fun k_s hk1 => ?_) (fun k_s hk5 => ?_) ?_ ?_ (fun a_s k_s q1_s q2_s q3_s => ?_)
  · rw [g1 k_s hk1, zne_up (by omega), zne_up (by omega)]
  · rw [g2 k_s hk5, e3_s]
  · rw [g3_s _ _ (by omega) (by omega), zsame_up]
  · rw [g3_s _ _ (by omega) (by omega), zne_up (by omega), zsame_up]
  · rw [g3_s a_s k_s q1_s q2_s, zne_up (by omega), zne_up (by omega)]
theorem pr_image (hk : hKn h_s) (hx : tX h_s) : wF F_s 121 (0, [some (.ref 6), none], [], h_s) (gI (fun v_s h1 => wF F_s 215 (0, [some (.ref 102), none], [], h1) (gI (fun v2 h2 => v_s = v2 ∧ tX h2)))) := by
  obtain ⟨nh, ni, nr, hc_s, hh, hi_, hd_s, hz, hl⟩ := hx
  have b_s := hc_s.1
  refine sp_121 (f_s := h_s.2.1) hk hc_s.2.1.2.1 b_s.2.1 (fun f1_s g1 g2 g3_s g4 => ?_)
  refine sp_215 (h_s := (h_s.1, f1_s, h_s.2.2.1, h_s.2.2.2)) (f_s := f1_s) hk (fun f2_s p1_s p2_s p3_s p4_s p5_s => ?_)
  have e119 : f1_s 119 3 = h_s.2.1 119 3 := g4 119 3 (by omega) (by omega) (by omega)
  refine ⟨by rw [e119]; exact hd_s 3 (by omega) (by omega), nh, ni, nr, tC_fr (fun a_s k_s q_s => ?_) hc_s, tH_fr (fun a_s k_s q_s => ?_) hh, Or.inr ⟨ni, Nat.le_refl ni, ?_, ?_, ?_, fun i_s k_s hi_s hk7 k0_s k4_s => ?_, fun k_s k2_s k4_s => ?_⟩, tD_fr (fun a_s k_s q_s => ?_) hd_s, tZ_fr (fun a_s k_s q_s => ?_) hz, tLw_fr (h_s := h_s) (fun _ => rfl) (fun a_s k_s q_s => ?_) hl⟩
  · show f2_s a_s k_s = h_s.2.1 a_s k_s
    unfold inC at q_s
    rw [p5_s a_s k_s (by omega) (by omega) (by omega)]
    exact g4 a_s k_s (by omega) (by omega) (by omega)
  · show f2_s a_s k_s = h_s.2.1 a_s k_s
    unfold inH at q_s
    rw [p5_s a_s k_s (by omega) (by omega) (by omega)]
    exact g4 a_s k_s (by omega) (by omega) (by omega)
  · show (f2_s 6 12).toInt = (ni : Int)
    rw [p5_s 6 12 (by omega) (by omega) (by omega), g3_s]
    exact hc_s.2.1.2.1
  · show (f2_s 102 36).toInt = (ni : Int)
    rw [p3_s, g4 102 7 (by omega) (by omega) (by omega)]
    exact hc_s.2.2.1.2.1
  · show ¬ (f2_s 102 35).toInt = 0
    rw [p4_s]
    decide
  · show f2_s (94 + i_s) k_s = f2_s 120 (12 + 8 * k_s + i_s) ∧ vB nh nr i_s (k_s + 2) (f2_s 120 (12 + 8 * k_s + i_s)).toInt
    rw [p5_s (94 + i_s) k_s (by omega) (by omega) (by omega), g1 i_s k_s hi_s hk7, p1_s _ (by omega), g4 103 _ (by omega) (by omega) (by omega)]
    have u_s := hc_s.2.2.2.1 i_s (k_s + 2) (by omega) (by rw [cap_i (by omega) (by omega)]; omega) (fun _ => hi_s)
    rw [cO_i (by omega) (by omega), cF_i (by omega) (by omega), plc_i (by omega) (by omega), Nat.add_sub_cancel] at u_s
    exact u_s
  · show f2_s 75 k_s = f2_s 121 k_s
    rw [p5_s 75 k_s (by omega) (by omega) (by omega), g2 k_s (by omega), p2_s k_s (by omega), g4 119 k_s (by omega) (by omega) (by omega)]
    exact hd_s k_s k2_s k4_s
  · show f2_s a_s k_s = h_s.2.1 a_s k_s
    unfold inD at q_s
    rw [p5_s a_s k_s (by omega) (by omega) (by omega)]
    exact g4 a_s k_s (by omega) (by omega) (by omega)
  · show f2_s a_s k_s = h_s.2.1 a_s k_s
    unfold inZ at q_s
    rw [p5_s a_s k_s (by omega) (by omega) (by omega)]
    exact g4 a_s k_s (by omega) (by omega) (by omega)
  · show f2_s a_s k_s = h_s.2.1 a_s k_s
    unfold inW at q_s
    rw [p5_s a_s k_s (by omega) (by omega) (by omega)]
    exact g4 a_s k_s (by omega) (by omega) (by omega)
/-- back, the class -/
theorem bk122 {ic : Nat} {f0_s : Nat → Nat → Int32} (hk : hKn h_s) (hn : (f0_s 6 12).toInt = (ic : Int)) (hb_s : ic ≤ 8) (t_s : ∀ f1_s, (∀ i_s k_s, i_s < ic → k_s < 7 → ¬ k_s = 0 → ¬ k_s = 4 → f1_s (20 + i_s) k_s = f0_s (94 + i_s) k_s) → (∀ k_s, k_s < 5 → f1_s 73 k_s = f0_s 75 k_s) → (∀ a_s k_s, ¬ (20 ≤ a_s ∧ a_s < 20 + ic ∧ k_s < 7 ∧ ¬ k_s = 0 ∧ ¬ k_s = 4) → ¬ (a_s = 73 ∧ k_s < 5) → f1_s a_s k_s = f0_s a_s k_s) → K_s (f0_s 75 3) (h_s.1, f1_s, h_s.2.2.1, h_s.2.2.2)) : ∀ (F_s j_s : Nat) (x1_s : Int32) (f_s : Nat → Nat → Int32), x1_s.toInt = (j_s : Int) → j_s ≤ ic → (∀ i_s k_s, i_s < j_s → k_s < 7 → ¬ k_s = 0 → ¬ k_s = 4 → f_s (20 + i_s) k_s = f0_s (94 + i_s) k_s) → (∀ a_s k_s, ¬ (20 ≤ a_s ∧ a_s < 20 + j_s ∧ k_s < 7 ∧ ¬ k_s = 0 ∧ ¬ k_s = 4) → f_s a_s k_s = f0_s a_s k_s) → wF F_s 122 (13, [some (.ref 6), some (.int x1_s)], [], (h_s.1, f_s, h_s.2.2.1, h_s.2.2.2)) (gI K_s)
  | 0, _, _, _, _, _, _, _ => wF_zero
  | F_s + 1, j_s, x1_s, f_s, hx, hj, hf, hg => by
    have z_s := azix (i := x1_s) (by omega)
    have ez : zix x1_s = j_s := by omega
    have e612 : f_s 6 12 = f0_s 6 12 := hg 6 12 (by omega)
    refine sg_122_13 (h_s := (h_s.1, f_s, h_s.2.2.1, h_s.2.2.2)) hk ?_
    dsimp only
    rw [ez, e612, hn]
    refine ⟨fun c1_s _ => ?_, fun c1_s _ => ?_⟩
    · refine sp_36 hk (by omega) (fun f1_s g1 g2 _ => ?_)
      refine bk122 (f0_s := f0_s) hk hn hb_s t_s F_s (j_s + 1) (x1_s + 1) f1_s (by rw [in1_ (by omega)]; omega) (by omega) (fun i_s k_s hi_s hk7 k0_s k4_s => ?_) (fun a_s k_s q_s => ?_)
      · by_cases e_s : i_s = j_s
        · rw [e_s, g1 k_s hk7 k0_s k4_s]
          exact hg _ _ (by omega)
        · rw [g2 _ _ (by omega)]
          exact hf i_s k_s (by omega) hk7 k0_s k4_s
      · rw [g2 _ _ (by omega)]
        exact hg a_s k_s (by omega)
    · have ej : j_s = ic := by omega
      subst ej
      have e75 : ∀ k_s, f_s 75 k_s = f0_s 75 k_s := fun k_s => hg 75 k_s (by omega)
      have e3_s : zrow f_s 73 (zcpy (f_s 75) (f_s 73) 0 0 5) 73 3 = f0_s 75 3 := by
        rw [zrw_s, zcp_i (by omega)]
        exact e75 3
      rw [e3_s]
      refine t_s _ (fun i_s k_s hi_s hk7 k0_s k4_s => ?_) (fun k_s hk5 => ?_) (fun a_s k_s q1_s q2_s => ?_)
      · rw [zrw_n (by omega)]
        exact hf i_s k_s hi_s hk7 k0_s k4_s
      · rw [zrw_s, zcp_i (by omega), show 0 + (k_s - 0) = k_s by omega]
        exact e75 k_s
      · by_cases e_s : a_s = 73
        · subst e_s
          rw [zrw_s, zcp_o (by omega)]
          exact hg 73 k_s (by omega)
        · rw [zrw_n e_s]
          exact hg a_s k_s q1_s
theorem bk216b {f0_s : Nat → Nat → Int32} (hk : hKn h_s) (t_s : ∀ f1_s, (∀ k_s, k_s < 5 → f1_s 119 k_s = f0_s 121 k_s) → (∀ a_s k_s, ¬ (a_s = 119 ∧ k_s < 5) → f1_s a_s k_s = f0_s a_s k_s) → K_s (f0_s 121 3) (h_s.1, f1_s, h_s.2.2.1, h_s.2.2.2)) : ∀ (F_s j_s : Nat) (x1_s : Int32) (f_s : Nat → Nat → Int32), x1_s.toInt = (j_s : Int) → j_s ≤ 5 → (∀ k_s, k_s < j_s → f_s 119 k_s = f0_s 121 k_s) → (∀ a_s k_s, ¬ (a_s = 119 ∧ k_s < 5) → f_s a_s k_s = f0_s a_s k_s) → wF F_s 216 (118, [some (.ref 102), some (.int x1_s)], [], (h_s.1, f_s, h_s.2.2.1, h_s.2.2.2)) (gI K_s)
  | 0, _, _, _, _, _, _, _ => wF_zero
  | F_s + 1, j_s, x1_s, f_s, hx, hj, hf, hg => by
    have z_s := azix (i := x1_s) (by omega)
    have ez : zix x1_s = j_s := by omega
    refine sg_216_118 (h_s := (h_s.1, f_s, h_s.2.2.1, h_s.2.2.2)) hk ?_
    dsimp only
    rw [ez, hg 121 j_s (by omega)]
    refine ⟨fun c1_s _ => ?_, fun c1_s => ?_⟩
    · refine bk216b (f0_s := f0_s) hk t_s F_s (j_s + 1) (x1_s + 1) _ (by rw [in1_ (by omega)]; omega) (by omega) (fun k_s hk1 => ?_) (fun a_s k_s q_s => ?_)
      · by_cases e_s : k_s = j_s
        · rw [e_s, zsame_up]
        · rw [zne_up (by omega)]
          exact hf k_s (by omega)
      · rw [zne_up (by omega)]
        exact hg a_s k_s q_s
    · have ej : j_s = 5 := by omega
      subst ej
      rw [hf 3 (by omega)]
      exact t_s f_s hf hg
noncomputable def bkP (i_s k_s : Nat) : Prop := (20 ≤ k_s ∧ k_s < 44 ∧ (k_s - 20) % 8 < i_s) ∨ (52 ≤ k_s ∧ k_s < 68 ∧ (k_s - 52) % 8 < i_s)
theorem bk216 {ic : Nat} {f0_s : Nat → Nat → Int32} (hk : hKn h_s) (hn : (f0_s 102 36).toInt = (ic : Int)) (hb_s : ic ≤ 8) (t_s : ∀ f1_s, (∀ k_s, bkP ic k_s → f1_s 103 k_s = f0_s 120 k_s) → (∀ k_s, k_s < 5 → f1_s 119 k_s = f0_s 121 k_s) → (∀ a_s k_s, ¬ (a_s = 103 ∧ bkP ic k_s) → ¬ (a_s = 119 ∧ k_s < 5) → f1_s a_s k_s = f0_s a_s k_s) → K_s (f0_s 121 3) (h_s.1, f1_s, h_s.2.2.1, h_s.2.2.2)) : ∀ (F_s j_s : Nat) (x1_s : Int32) (f_s : Nat → Nat → Int32), x1_s.toInt = (j_s : Int) → j_s ≤ ic → (∀ k_s, bkP j_s k_s → f_s 103 k_s = f0_s 120 k_s) → (∀ a_s k_s, ¬ (a_s = 103 ∧ bkP j_s k_s) → f_s a_s k_s = f0_s a_s k_s) → wF F_s 216 (12, [some (.ref 102), some (.int x1_s)], [], (h_s.1, f_s, h_s.2.2.1, h_s.2.2.2)) (gI K_s)
  | 0, _, _, _, _, _, _, _ => wF_zero
  | F_s + 1, j_s, x1_s, f_s, hx, hj, hf, hg => by
    have e36 : f_s 102 36 = f0_s 102 36 := hg 102 36 (by omega)
    have e120_s : ∀ k_s, f_s 120 k_s = f0_s 120 k_s := fun k_s => hg 120 k_s (by omega)
    have z20 : zix (20 + x1_s) = 20 + j_s := zxa (c_s := 20) (a_s := 20) rfl hx (by omega)
    have z28_s : zix (28 + x1_s) = 28 + j_s := zxa (c_s := 28) (a_s := 28) rfl hx (by omega)
    have z36 : zix (36 + x1_s) = 36 + j_s := zxa (c_s := 36) (a_s := 36) rfl hx (by omega)
    have z52 : zix (52 + x1_s) = 52 + j_s := zxa (c_s := 52) (a_s := 52) rfl hx (by omega)
    have z60_s : zix (60 + x1_s) = 60 + j_s := zxa (c_s := 60) (a_s := 60) rfl hx (by omega)
    refine sg_216_12 (h_s := (h_s.1, f_s, h_s.2.2.1, h_s.2.2.2)) hk ?_
    dsimp only
    rw [z20, z28_s, z36, z52, z60_s, e36, hn]
    simp only [e120_s]
    refine ⟨fun c1_s _ _ _ _ _ => ?_, fun c1_s => ?_⟩
    · refine bk216 (f0_s := f0_s) hk hn hb_s t_s F_s (j_s + 1) (x1_s + 1) _ (by rw [in1_ (by omega)]; omega) (by omega) (fun k_s hk1 => ?_) (fun a_s k_s q_s => ?_)
      · by_cases w_s : bkP j_s k_s
        · have w1_s := hf k_s w_s
          unfold bkP at w_s
          rw [zne_up (by omega), zne_up (by omega), zne_up (by omega), zne_up (by omega), zne_up (by omega)]
          exact w1_s
        · unfold bkP at w_s hk1
          have e5_s : k_s = 20 + j_s ∨ k_s = 28 + j_s ∨ k_s = 36 + j_s ∨ k_s = 52 + j_s ∨ k_s = 60 + j_s := by omega
          rcases e5_s with e_s | e_s | e_s | e_s | e_s <;> (subst e_s; simp (disch := omega) only [zne_up, zsame_up])
      · unfold bkP at q_s
        rw [zne_up (by omega), zne_up (by omega), zne_up (by omega), zne_up (by omega), zne_up (by omega)]
        exact hg a_s k_s (by unfold bkP; omega)
    · have ej : j_s = ic := by omega
      subst ej
      have e121 : f_s 121 3 = f0_s 121 3 := hg 121 3 (by omega)
      refine bk216b (f0_s := f_s) hk (fun f1_s g1 g2 => ?_) F_s 0 0 f_s rfl (Nat.zero_le _) (fun k_s hq => absurd hq (Nat.not_lt_zero k_s)) (fun _ _ _ => rfl)
      rw [e121]
      refine t_s f1_s (fun k_s hk1 => ?_) (fun k_s hk5 => ?_) (fun a_s k_s q1_s q2_s => ?_)
      · rw [g2 _ _ (by omega)]
        exact hf k_s hk1
      · rw [g1 k_s hk5]
        exact hg 121 k_s (by omega)
      · rw [g2 a_s k_s q2_s]
        exact hg a_s k_s q1_s
theorem pr_back (hk : hKn h_s) (hx : tX h_s) : wF F_s 122 (0, [some (.ref 6), none], [], h_s) (gI (fun v_s h1 => wF F_s 216 (0, [some (.ref 102), none], [], h1) (gI (fun v2 h2 => v_s = v2 ∧ tX h2)))) := by
  obtain ⟨nh, ni, nr, hc_s, hh, hi_, hd_s, hz, hl⟩ := hx
  have hx : tX h_s := ⟨nh, ni, nr, hc_s, hh, hi_, hd_s, hz, hl⟩
  have b_s := hc_s.1
  rcases hi_ with ⟨i1_s, i2_s⟩ | ⟨ic, i1_s, i2_s, i3_s, i4_s, i5_s, i6_s⟩
  · refine wF_le (Nat.le_succ F_s) (sg_122_0 hk ⟨fun _ => ?_, fun c_s => absurd i1_s c_s⟩)
    exact wF_le (Nat.le_succ F_s) (sg_216_0 hk ⟨fun _ => ⟨rfl, hx⟩, fun c_s => absurd i2_s c_s⟩)
  · refine wF_le (Nat.le_succ F_s) (sg_122_0 hk ⟨fun (c_s : (h_s.2.1 6 12).toInt = -1) => absurd c_s (by omega), fun _ => ?_⟩)
    refine bk122 (f0_s := h_s.2.1) hk i2_s (by omega) (fun f1_s g1 g2 g3_s => ?_) F_s 0 0 h_s.2.1 rfl (Nat.zero_le _) (fun i_s k_s hi_s _ _ _ => absurd hi_s (Nat.not_lt_zero i_s)) (fun _ _ _ => rfl)
    have h1o : ∀ a_s k_s, 74 ≤ a_s → f1_s a_s k_s = h_s.2.1 a_s k_s := fun a_s k_s ha_s => g3_s a_s k_s (by omega) (by omega)
    refine wF_le (Nat.le_succ F_s) (sg_216_0 (h_s := (h_s.1, f1_s, h_s.2.2.1, h_s.2.2.2)) hk ⟨fun (c_s : (f1_s 102 35).toInt = 0) => absurd c_s (by rw [h1o 102 35 (by omega)]; exact i4_s), fun _ => ?_⟩)
    refine bk216 (h_s := (h_s.1, f1_s, h_s.2.2.1, h_s.2.2.2)) (f0_s := f1_s) (ic := ic) hk (by rw [h1o 102 36 (by omega)]; exact i3_s) (by omega) (fun f2_s p1_s p2_s p3_s => ?_) F_s 0 0 f1_s rfl (Nat.zero_le _) (fun k_s hq => absurd hq (by unfold bkP; omega)) (fun _ _ _ => rfl)
    have fr_s : ∀ a_s k_s, inX a_s k_s → ¬ (20 ≤ a_s ∧ a_s < 20 + ic ∧ k_s < 7 ∧ ¬ k_s = 0 ∧ ¬ k_s = 4) → ¬ (a_s = 103 ∧ bkP ic k_s) → ¬ inD a_s k_s → f2_s a_s k_s = h_s.2.1 a_s k_s := fun a_s k_s qx s1_s s2_s s3_s => by
      have n5_s : ¬ (a_s = 119 ∧ k_s < 5) ∧ ¬ (a_s = 73 ∧ k_s < 5) := by
        unfold inX inC inH inI inD inZ inW at qx
        unfold inD at s3_s
        omega
      rw [p3_s a_s k_s s2_s n5_s.1]
      exact g3_s a_s k_s s1_s n5_s.2
    refine ⟨by rw [h1o 121 3 (by omega)]; exact i6_s 3 (by omega) (by omega), nh, ni, nr, ?_, tH_fr (fun a_s k_s q_s => fr_s a_s k_s (Or.inr (Or.inl q_s)) ?_ ?_ ?_) hh, tI_fr (fun a_s k_s q_s => fr_s a_s k_s (Or.inr (Or.inr (Or.inl q_s))) ?_ ?_ ?_) (Or.inr ⟨ic, i1_s, i2_s, i3_s, i4_s, i5_s, i6_s⟩) b_s.2.1, fun k_s k2_s k4_s => ?_, tZ_fr (fun a_s k_s q_s => fr_s a_s k_s (Or.inr (Or.inr (Or.inr (Or.inr (Or.inl q_s))))) ?_ ?_ ?_) hz, tLw_fr (h_s := h_s) (fun _ => rfl) (fun a_s k_s q_s => fr_s a_s k_s (Or.inr (Or.inr (Or.inr (Or.inr (Or.inr q_s))))) ?_ ?_ ?_) hl⟩
    · obtain ⟨a0_s, ⟨a1_s, a2, a3⟩, ⟨a4, a5, a6⟩, a7, a8, a9⟩ := hc_s
      have fc_s : ∀ a_s k_s, inC a_s k_s → ¬ (20 ≤ a_s ∧ a_s < 20 + ic ∧ k_s < 7 ∧ ¬ k_s = 0 ∧ ¬ k_s = 4) → ¬ (a_s = 103 ∧ bkP ic k_s) → f2_s a_s k_s = h_s.2.1 a_s k_s := fun a_s k_s q_s s1_s s2_s => fr_s a_s k_s (Or.inl q_s) s1_s s2_s (by unfold inC at q_s; unfold inD; omega)
      have f7_s : ∀ a_s k_s, (a_s = 7 ∨ a_s = 102) ∧ 6 ≤ k_s ∧ k_s ≤ 8 → f2_s a_s k_s = h_s.2.1 a_s k_s := fun a_s k_s q_s => fc_s a_s k_s (by unfold inC; omega) (by omega) (by omega)
      refine ⟨a0_s, ⟨?_, ?_, ?_⟩, ⟨?_, ?_, ?_⟩, fun n_s w_s hw hnc h8 => ?_, fun j_s j1 j2_s => ?_, fun r_s hr => ?_⟩
      · show (f2_s 7 6).toInt = (nh : Int)
        rw [f7_s 7 6 (by omega)]
        exact a1_s
      · show (f2_s 7 7).toInt = (ni : Int)
        rw [f7_s 7 7 (by omega)]
        exact a2
      · show (f2_s 7 8).toInt = (nr : Int)
        rw [f7_s 7 8 (by omega)]
        exact a3
      · show (f2_s 102 6).toInt = (nh : Int)
        rw [f7_s 102 6 (by omega)]
        exact a4
      · show (f2_s 102 7).toInt = (ni : Int)
        rw [f7_s 102 7 (by omega)]
        exact a5
      · show (f2_s 102 8).toInt = (nr : Int)
        rw [f7_s 102 8 (by omega)]
        exact a6
      · show f2_s (cO n_s w_s) (cF n_s w_s) = f2_s 103 (plc n_s w_s) ∧ vB nh nr n_s w_s (f2_s 103 (plc n_s w_s)).toInt
        have u_s := a7 n_s w_s hw hnc h8
        by_cases w2_s : w_s < 2
        · rw [cap_h w2_s] at hnc
          rw [cO_h w2_s, cF_h w2_s, plc_h w2_s] at u_s ⊢
          rw [fc_s (8 + w_s) n_s (by unfold inC; omega) (by omega) (by unfold bkP; omega), fc_s 103 (6 * w_s + n_s) (by unfold inC; omega) (by omega) (by unfold bkP; omega)]
          exact u_s
        · by_cases w9 : w_s < 9
          · rw [cap_i (by omega) w9] at hnc
            rw [cO_i (by omega) w9, cF_i (by omega) w9, plc_i (by omega) w9] at u_s ⊢
            by_cases e_s : n_s < ic ∧ ¬ w_s = 2 ∧ ¬ w_s = 6
            · have v_s := i5_s n_s (w_s - 2) e_s.1 (by omega) (by omega) (by omega)
              have q1_s : f2_s (20 + n_s) (w_s - 2) = h_s.2.1 (94 + n_s) (w_s - 2) := by
                rw [p3_s _ _ (by omega) (by omega)]
                exact g1 n_s (w_s - 2) e_s.1 (by omega) (by omega) (by omega)
              have q2_s : f2_s 103 (12 + 8 * (w_s - 2) + n_s) = h_s.2.1 120 (12 + 8 * (w_s - 2) + n_s) := by
                rw [p1_s _ (by unfold bkP; omega)]
                exact h1o _ _ (by omega)
              rw [q1_s, q2_s]
              rw [show w_s - 2 + 2 = w_s by omega] at v_s
              exact v_s
            · rw [fc_s (20 + n_s) (w_s - 2) (by unfold inC; omega) (by omega) (by unfold bkP; omega), fc_s 103 (12 + 8 * (w_s - 2) + n_s) (by unfold inC; omega) (by omega) (by unfold bkP; omega)]
              exact u_s
          · rw [cap_r (by omega)] at hnc
            rw [cO_r (by omega), cF_r (by omega), plc_r (by omega)] at u_s ⊢
            rw [fc_s (28 + n_s) (w_s - 7) (by unfold inC; omega) (by omega) (by unfold bkP; omega), fc_s 103 (68 + 12 * (w_s - 9) + n_s) (by unfold inC; omega) (by omega) (by unfold bkP; omega)]
            exact u_s
      · show f2_s (20 + j_s) 6 = -1
        rw [fc_s (20 + j_s) 6 (by unfold inC; omega) (by omega) (by unfold bkP; omega)]
        exact a8 j_s j1 j2_s
      · have q_s := fun a_s k_s (qa : (a_s = 28 + r_s ∧ k_s < 2) ∨ ((a_s = 107 ∨ a_s = 108) ∧ k_s = r_s)) => fc_s a_s k_s (by unfold inC; omega) (by omega) (by unfold bkP; omega)
        show (f2_s (28 + r_s) 0 = f2_s 107 r_s ∧ f2_s (28 + r_s) 1 = f2_s 108 r_s) ∧ (0 ≤ (f2_s 107 r_s).toInt ∧ (f2_s 107 r_s).toInt ≤ 7) ∧ (0 ≤ (f2_s 108 r_s).toInt ∧ (f2_s 108 r_s).toInt ≤ 7) ∧ (r_s < nr → ¬ (f2_s 107 r_s).toInt = (f2_s 108 r_s).toInt)
        rw [q_s (28 + r_s) 0 (by omega), q_s (28 + r_s) 1 (by omega), q_s 107 r_s (by omega), q_s 108 r_s (by omega)]
        exact a9 r_s hr
    · unfold inH at q_s
      omega
    · unfold inH at q_s
      unfold bkP
      omega
    · unfold inH at q_s
      unfold inD
      omega
    · unfold inI at q_s
      omega
    · unfold inI at q_s
      unfold bkP
      omega
    · unfold inI at q_s
      unfold inD
      omega
    · show f2_s 73 k_s = f2_s 119 k_s
      rw [p3_s 73 k_s (by omega) (by omega), g2 k_s (by omega), p2_s k_s (by omega), h1o 121 k_s (by omega)]
      exact i6_s k_s k2_s k4_s
    · unfold inZ at q_s
      omega
    · unfold inZ at q_s
      unfold bkP
      omega
    · unfold inZ at q_s
      unfold inD
      omega
    · unfold inW at q_s
      omega
    · unfold inW at q_s
      unfold bkP
      omega
    · unfold inW at q_s
      unfold inD
      omega
end S5
