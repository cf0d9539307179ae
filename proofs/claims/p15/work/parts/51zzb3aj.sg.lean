/-! What ended runs give: printed by a program (wip/fun/sg.py). -/
/-- ColdShod$Country.wearOf(LColdShod$Idea;LColdShod$Road;)I, from 0 on -/
theorem sg_23_0 {F_s : Nat} {d_s ro : Nat} {h_s : zH} {K_s : Int32 → zH → Prop} (hk : hKn h_s) (t_s : wF F_s 23 (30, [some (.ref 7), some (.ref d_s), some (.ref ro)], [], (h_s.1, zup (zup (zup h_s.2.1 13 0 (h_s.2.1 d_s 0)) 13 1 ((zup h_s.2.1 13 0 (h_s.2.1 d_s 0)) d_s 2)) 13 2 ((zup (zup h_s.2.1 13 0 (h_s.2.1 d_s 0)) 13 1 ((zup h_s.2.1 13 0 (h_s.2.1 d_s 0)) d_s 2)) d_s 3), h_s.2.2.1, h_s.2.2.2)) (gI K_s)) : wF (F_s + 1) 23 (0, [some (.ref 7), some (.ref d_s), some (.ref ro)], [], h_s) (gI K_s) := by
  refine w_0 (pc := 0) (e_s := (3, 1, 0, 0, 0, .null, [])) (y_s := (1, [some (.ref _), some (.ref _), some (.ref _)], [.ref _], _)) rfl (u_ rfl) ?_
  refine w20r (pc := 1) (len_s := 3) (q_s := 13) rfl (krq hk rfl) ?_
  refine w_t (pc := 4) (e_s := (0, 1, 0, 0, 0, .int 0, [])) (y_s := (5, [some (.ref _), some (.ref _), some (.ref _)], [.int _, .ref _], _)) rfl (u_ rfl) ?_
  refine w_t (pc := 5) (e_s := (3, 1, 1, 0, 0, .null, [])) (y_s := (6, [some (.ref _), some (.ref _), some (.ref _)], [.ref _, .int _, .ref _], _)) rfl (u_ rfl) ?_
  refine w20 (pc := 6) (len_s := 3) rfl ?_
  refine w25 (pc := 9) (len_s := 1) rfl (hk.1 13 0 6 rfl rfl) (fun c1_s => ?_)
  refine w_t (pc := 10) (e_s := (3, 1, 0, 0, 0, .null, [])) (y_s := (11, [some (.ref _), some (.ref _), some (.ref _)], [.ref _], _)) rfl (u_ rfl) ?_
  refine w20r (pc := 11) (len_s := 3) (q_s := 13) rfl (krq hk rfl) ?_
  refine w_t (pc := 14) (e_s := (0, 1, 0, 0, 0, .int 1, [])) (y_s := (15, [some (.ref _), some (.ref _), some (.ref _)], [.int _, .ref _], _)) rfl (u_ rfl) ?_
  refine w_t (pc := 15) (e_s := (3, 1, 1, 0, 0, .null, [])) (y_s := (16, [some (.ref _), some (.ref _), some (.ref _)], [.ref _, .int _, .ref _], _)) rfl (u_ rfl) ?_
  refine w20 (pc := 16) (len_s := 3) rfl ?_
  refine w25 (pc := 19) (len_s := 1) rfl (hk.1 13 0 6 rfl rfl) (fun c2_s => ?_)
  refine w_t (pc := 20) (e_s := (3, 1, 0, 0, 0, .null, [])) (y_s := (21, [some (.ref _), some (.ref _), some (.ref _)], [.ref _], _)) rfl (u_ rfl) ?_
  refine w20r (pc := 21) (len_s := 3) (q_s := 13) rfl (krq hk rfl) ?_
  refine w_t (pc := 24) (e_s := (0, 1, 0, 0, 0, .int 2, [])) (y_s := (25, [some (.ref _), some (.ref _), some (.ref _)], [.int _, .ref _], _)) rfl (u_ rfl) ?_
  refine w_t (pc := 25) (e_s := (3, 1, 1, 0, 0, .null, [])) (y_s := (26, [some (.ref _), some (.ref _), some (.ref _)], [.ref _, .int _, .ref _], _)) rfl (u_ rfl) ?_
  refine w20 (pc := 26) (len_s := 3) rfl ?_
  refine w25 (pc := 29) (len_s := 1) rfl (hk.1 13 0 6 rfl rfl) (fun c3_s => ?_)
  exact t_s
/-- ColdShod$Country.wearOf(LColdShod$Idea;LColdShod$Road;)I, from 30 on -/
theorem sg_23_30 {F_s : Nat} {d_s ro : Nat} {h_s : zH} {K_s : Int32 → zH → Prop} (hk : hKn h_s) (t_s : ((h_s.2.1 d_s 6).toInt < 0 → wF F_s 23 (69, [some (.ref 7), some (.ref d_s), some (.ref ro)], [], (h_s.1, zup h_s.2.1 13 3 9, h_s.2.2.1, h_s.2.2.2)) (gI K_s)) ∧ (¬ (h_s.2.1 d_s 6).toInt < 0 → (((h_s.2.1 d_s 6).toInt < (h_s.2.1 7 6).toInt → (zix (h_s.2.1 d_s 6) < 6 → wF F_s 23 (69, [some (.ref 7), some (.ref d_s), some (.ref ro)], [], (h_s.1, zup h_s.2.1 13 3 (if ((h_s.2.1 d_s 1) - (h_s.2.1 8 (zix (h_s.2.1 d_s 6)))) < 0 then -((h_s.2.1 d_s 1) - (h_s.2.1 8 (zix (h_s.2.1 d_s 6)))) else ((h_s.2.1 d_s 1) - (h_s.2.1 8 (zix (h_s.2.1 d_s 6))))), h_s.2.2.1, h_s.2.2.2)) (gI K_s))) ∧ (¬ (h_s.2.1 d_s 6).toInt < (h_s.2.1 7 6).toInt → wF F_s 23 (69, [some (.ref 7), some (.ref d_s), some (.ref ro)], [], (h_s.1, zup h_s.2.1 13 3 9, h_s.2.2.1, h_s.2.2.2)) (gI K_s))))) : wF (F_s + 1) 23 (30, [some (.ref 7), some (.ref d_s), some (.ref ro)], [], h_s) (gI K_s) := by
  refine w_0 (pc := 30) (e_s := (3, 1, 0, 0, 0, .null, [])) (y_s := (31, [some (.ref _), some (.ref _), some (.ref _)], [.ref _], _)) rfl (u_ rfl) ?_
  refine w20r (pc := 31) (len_s := 3) (q_s := 13) rfl (krq hk rfl) ?_
  refine w_t (pc := 34) (e_s := (0, 1, 0, 0, 0, .int 3, [])) (y_s := (35, [some (.ref _), some (.ref _), some (.ref _)], [.int _, .ref _], _)) rfl (u_ rfl) ?_
  refine w_t (pc := 35) (e_s := (3, 1, 0, 0, 0, .null, [])) (y_s := (36, [some (.ref _), some (.ref _), some (.ref _)], [.ref _, .int _, .ref _], _)) rfl (u_ rfl) ?_
  refine w_t (pc := 36) (e_s := (3, 1, 1, 0, 0, .null, [])) (y_s := (37, [some (.ref _), some (.ref _), some (.ref _)], [.ref _, .ref _, .int _, .ref _], _)) rfl (u_ rfl) ?_
  refine w20 (pc := 37) (len_s := 3) rfl ?_
  refine wcI (pc := 40) (len_s := 3) rfl rfl (l := [some (.ref _), some (.int _)]) rfl ?_
  refine w_t (pc := 0) (e_s := (1, 1, 1, 0, 0, .null, [])) (y_s := (1, [some (.ref _), some (.int _)], [.int _], _)) rfl (u_ rfl) ?_
  refine wq2 (pc := 1) (len_s := 3) rfl rfl (fun c1_s => ?_) (fun c1_s => ?_)
  · replace t_s := t_s.1 c1_s
    refine w_t (pc := 16) (e_s := (0, 1, 0, 0, 0, .int 0, [])) (y_s := (17, [some (.ref _), some (.int _)], [.int _], _)) rfl (u_ rfl) ?_
    refine wrI (pc := 17) (len_s := 1) rfl hk ?_
    show wF _ 23 (43, [some (.ref _), some (.ref _), some (.ref _)], [.int _, .int _, .ref _], _) _
    refine w_t (pc := 43) (e_s := (15, 3, 66, 0, 0, .null, [])) (y_s := (66, [some (.ref _), some (.ref _), some (.ref _)], [.int _, .ref _], _)) rfl (u_ rfl) ?_
    refine w_t (pc := 66) (e_s := (0, 2, 0, 0, 0, .int 9, [])) (y_s := (68, [some (.ref _), some (.ref _), some (.ref _)], [.int _, .int _, .ref _], _)) rfl (u_ rfl) ?_
    refine w25 (pc := 68) (len_s := 1) rfl (hk.1 13 0 6 rfl rfl) (fun c2_s => ?_)
    exact t_s
  · replace t_s := t_s.2 c1_s
    refine w_t (pc := 4) (e_s := (1, 1, 1, 0, 0, .null, [])) (y_s := (5, [some (.ref _), some (.int _)], [.int _], _)) rfl (u_ rfl) ?_
    refine w_t (pc := 5) (e_s := (3, 1, 0, 0, 0, .null, [])) (y_s := (6, [some (.ref _), some (.int _)], [.ref _, .int _], _)) rfl (u_ rfl) ?_
    refine w20 (pc := 6) (len_s := 3) rfl ?_
    refine wi3 (pc := 9) (len_s := 3) rfl rfl rfl (fun c3_s => ?_) (fun c3_s => ?_)
    · replace t_s := t_s.1 c3_s
      refine w_t (pc := 12) (e_s := (0, 1, 0, 0, 0, .int 1, [])) (y_s := (13, [some (.ref _), some (.int _)], [.int _], _)) rfl (u_ rfl) ?_
      refine w_t (pc := 13) (e_s := (17, 3, 17, 0, 0, .null, [])) (y_s := (17, [some (.ref _), some (.int _)], [.int _], _)) rfl (u_ rfl) ?_
      refine wrI (pc := 17) (len_s := 1) rfl hk ?_
      show wF _ 23 (43, [some (.ref _), some (.ref _), some (.ref _)], [.int _, .int _, .ref _], _) _
      refine w_t (pc := 43) (e_s := (15, 3, 66, 0, 0, .null, [])) (y_s := (46, [some (.ref _), some (.ref _), some (.ref _)], [.int _, .ref _], _)) rfl (u_ rfl) ?_
      refine w_t (pc := 46) (e_s := (3, 1, 1, 0, 0, .null, [])) (y_s := (47, [some (.ref _), some (.ref _), some (.ref _)], [.ref _, .int _, .ref _], _)) rfl (u_ rfl) ?_
      refine w20 (pc := 47) (len_s := 3) rfl ?_
      refine w_t (pc := 50) (e_s := (3, 1, 0, 0, 0, .null, [])) (y_s := (51, [some (.ref _), some (.ref _), some (.ref _)], [.ref _, .int _, .int _, .ref _], _)) rfl (u_ rfl) ?_
      refine w20r (pc := 51) (len_s := 3) (q_s := 8) rfl (krq hk rfl) ?_
      refine w_t (pc := 54) (e_s := (3, 1, 1, 0, 0, .null, [])) (y_s := (55, [some (.ref _), some (.ref _), some (.ref _)], [.ref _, .ref _, .int _, .int _, .ref _], _)) rfl (u_ rfl) ?_
      refine w20 (pc := 55) (len_s := 3) rfl ?_
      refine w22 (pc := 58) (len_s := 1) rfl (hk.1 8 0 6 rfl rfl) (fun c4_s => ?_)
      replace t_s := t_s c4_s
      refine w_t (pc := 59) (e_s := (7, 1, 0, 1, 0, .null, [])) (y_s := (60, [some (.ref _), some (.ref _), some (.ref _)], [.int (_ - _), .int _, .ref _], _)) rfl (u_ rfl) ?_
      refine w_t (pc := 60) (e_s := (31, 3, 0, 2, 0, .null, [(0, 774), (0, 775), (0, 776), (0, 777)])) (y_s := (63, [some (.ref _), some (.ref _), some (.ref _)], [.int _, .int _, .ref _], _)) rfl (u_ rfl) ?_
      refine w_t (pc := 63) (e_s := (17, 3, 68, 0, 0, .null, [])) (y_s := (68, [some (.ref _), some (.ref _), some (.ref _)], [.int _, .int _, .ref _], _)) rfl (u_ rfl) ?_
      refine w25 (pc := 68) (len_s := 1) rfl (hk.1 13 0 6 rfl rfl) (fun c5_s => ?_)
      exact t_s
    · replace t_s := t_s.2 c3_s
      refine w_t (pc := 16) (e_s := (0, 1, 0, 0, 0, .int 0, [])) (y_s := (17, [some (.ref _), some (.int _)], [.int _], _)) rfl (u_ rfl) ?_
      refine wrI (pc := 17) (len_s := 1) rfl hk ?_
      show wF _ 23 (43, [some (.ref _), some (.ref _), some (.ref _)], [.int _, .int _, .ref _], _) _
      refine w_t (pc := 43) (e_s := (15, 3, 66, 0, 0, .null, [])) (y_s := (66, [some (.ref _), some (.ref _), some (.ref _)], [.int _, .ref _], _)) rfl (u_ rfl) ?_
      refine w_t (pc := 66) (e_s := (0, 2, 0, 0, 0, .int 9, [])) (y_s := (68, [some (.ref _), some (.ref _), some (.ref _)], [.int _, .int _, .ref _], _)) rfl (u_ rfl) ?_
      refine w25 (pc := 68) (len_s := 1) rfl (hk.1 13 0 6 rfl rfl) (fun c6_s => ?_)
      exact t_s
/-- ColdShod$Country.wearOf(LColdShod$Idea;LColdShod$Road;)I, from 69 on -/
theorem sg_23_69 {F_s : Nat} {d_s ro : Nat} {h_s : zH} {K_s : Int32 → zH → Prop} (hk : hKn h_s) (t_s : ∀ q3_s, h_s.2.2.2 7 9 = some q3_s → q3_s = 14 ∨ q3_s = 17 → wF F_s 58 (0, [some (.ref q3_s), some (.ref 13), none, none, none, none, none, none], [], (h_s.1, zup (zup h_s.2.1 13 4 (h_s.2.1 ro 3)) 13 5 ((zup h_s.2.1 13 4 (h_s.2.1 ro 3)) ro 4), h_s.2.2.1, h_s.2.2.2)) (gI (fun v4_s h4 => hKn h4 → K_s (if 0 < (if v4_s < 9 then v4_s else 9) then (if v4_s < 9 then v4_s else 9) else 0) h4))) : wF (F_s + 1) 23 (69, [some (.ref 7), some (.ref d_s), some (.ref ro)], [], h_s) (gI K_s) := by
  refine w_0 (pc := 69) (e_s := (3, 1, 0, 0, 0, .null, [])) (y_s := (70, [some (.ref _), some (.ref _), some (.ref _)], [.ref _], _)) rfl (u_ rfl) ?_
  refine w20r (pc := 70) (len_s := 3) (q_s := 13) rfl (krq hk rfl) ?_
  refine w_t (pc := 73) (e_s := (0, 1, 0, 0, 0, .int 4, [])) (y_s := (74, [some (.ref _), some (.ref _), some (.ref _)], [.int _, .ref _], _)) rfl (u_ rfl) ?_
  refine w_t (pc := 74) (e_s := (3, 1, 2, 0, 0, .null, [])) (y_s := (75, [some (.ref _), some (.ref _), some (.ref _)], [.ref _, .int _, .ref _], _)) rfl (u_ rfl) ?_
  refine w20 (pc := 75) (len_s := 3) rfl ?_
  refine w25 (pc := 78) (len_s := 1) rfl (hk.1 13 0 6 rfl rfl) (fun c1_s => ?_)
  refine w_t (pc := 79) (e_s := (3, 1, 0, 0, 0, .null, [])) (y_s := (80, [some (.ref _), some (.ref _), some (.ref _)], [.ref _], _)) rfl (u_ rfl) ?_
  refine w20r (pc := 80) (len_s := 3) (q_s := 13) rfl (krq hk rfl) ?_
  refine w_t (pc := 83) (e_s := (0, 1, 0, 0, 0, .int 5, [])) (y_s := (84, [some (.ref _), some (.ref _), some (.ref _)], [.int _, .ref _], _)) rfl (u_ rfl) ?_
  refine w_t (pc := 84) (e_s := (3, 1, 2, 0, 0, .null, [])) (y_s := (85, [some (.ref _), some (.ref _), some (.ref _)], [.ref _, .int _, .ref _], _)) rfl (u_ rfl) ?_
  refine w20 (pc := 85) (len_s := 3) rfl ?_
  refine w25 (pc := 88) (len_s := 1) rfl (hk.1 13 0 6 rfl rfl) (fun c2_s => ?_)
  refine w_t (pc := 89) (e_s := (0, 1, 0, 0, 0, .int 0, [])) (y_s := (90, [some (.ref _), some (.ref _), some (.ref _)], [.int _], _)) rfl (u_ rfl) ?_
  refine w_t (pc := 90) (e_s := (0, 2, 0, 0, 0, .int 9, [])) (y_s := (92, [some (.ref _), some (.ref _), some (.ref _)], [.int _, .int _], _)) rfl (u_ rfl) ?_
  refine w_t (pc := 92) (e_s := (3, 1, 0, 0, 0, .null, [])) (y_s := (93, [some (.ref _), some (.ref _), some (.ref _)], [.ref _, .int _, .int _], _)) rfl (u_ rfl) ?_
  obtain ⟨q3_s, r3, m3_s⟩ := krm hk (o := 7) (b_s := 9) rfl
  replace t_s := t_s q3_s r3 m3_s
  refine w20r (pc := 93) (len_s := 3) (q_s := q3_s) rfl r3 ?_
  refine w_t (pc := 96) (e_s := (3, 1, 0, 0, 0, .null, [])) (y_s := (97, [some (.ref _), some (.ref _), some (.ref _)], [.ref _, .ref _, .int _, .int _], _)) rfl (u_ rfl) ?_
  refine w20r (pc := 97) (len_s := 3) (q_s := 13) rfl (krq hk rfl) ?_
  refine wcI (pc := 100) (len_s := 3) rfl rfl (l := [some (.ref _), some (.ref _), none, none, none, none, none, none]) rfl (wmI t_s (fun v4_s h4 hk t_s => ?_))
  replace t_s := t_s hk
  refine w_t (pc := 103) (e_s := (31, 3, 0, 1, 0, .null, [(0, 779), (0, 780), (0, 781), (0, 777)])) (y_s := (106, [some (.ref _), some (.ref _), some (.ref _)], [.int _, .int _], _)) rfl (u_ rfl) ?_
  refine w_t (pc := 106) (e_s := (31, 3, 0, 0, 0, .null, [(0, 782), (0, 783), (0, 784), (0, 777)])) (y_s := (109, [some (.ref _), some (.ref _), some (.ref _)], [.int _], _)) rfl (u_ rfl) ?_
  exact wrI (pc := 109) (len_s := 1) rfl hk t_s
/-- ColdShod$Country.travel(LColdShod$Idea;LColdShod$Road;)I, from 0 on -/
theorem sg_24_0 {F_s : Nat} {d_s ro : Nat} {h_s : zH} {K_s : Int32 → zH → Prop} (hk : hKn h_s) (t_s : ((h_s.2.1 d_s 2).toInt < 99 → (((9 - ((h_s.2.1 d_s 2) / 11)).toInt < (h_s.2.1 ro 3).toInt → K_s 0 h_s) ∧ (¬ (9 - ((h_s.2.1 d_s 2) / 11)).toInt < (h_s.2.1 ro 3).toInt → wF F_s 23 (0, [some (.ref 7), some (.ref d_s), some (.ref ro)], [], h_s) (gI (fun v3 h3 => hKn h3 → wF F_s 24 (20, [some (.ref 7), some (.ref d_s), some (.ref ro), some (.int v3), some (.int 1)], [], h3) (gI K_s)))))) ∧ (¬ (h_s.2.1 d_s 2).toInt < 99 → K_s 0 h_s)) : wF (F_s + 1) 24 (0, [some (.ref 7), some (.ref d_s), some (.ref ro), none, none], [], h_s) (gI K_s) := by
  refine w_0 (pc := 0) (e_s := (3, 1, 1, 0, 0, .null, [])) (y_s := (1, [some (.ref _), some (.ref _), some (.ref _), none, none], [.ref _], _)) rfl (u_ rfl) ?_
  refine w_t (pc := 1) (e_s := (3, 1, 2, 0, 0, .null, [])) (y_s := (2, [some (.ref _), some (.ref _), some (.ref _), none, none], [.ref _, .ref _], _)) rfl (u_ rfl) ?_
  refine wcI (pc := 2) (len_s := 3) rfl rfl (l := [some (.ref _), some (.ref _)]) rfl ?_
  refine w_t (pc := 0) (e_s := (3, 1, 0, 0, 0, .null, [])) (y_s := (1, [some (.ref _), some (.ref _)], [.ref _], _)) rfl (u_ rfl) ?_
  refine wcI (pc := 1) (len_s := 3) rfl rfl (l := [some (.ref _)]) rfl ?_
  refine w_t (pc := 0) (e_s := (3, 1, 0, 0, 0, .null, [])) (y_s := (1, [some (.ref _)], [.ref _], _)) rfl (u_ rfl) ?_
  refine w20 (pc := 1) (len_s := 3) rfl ?_
  refine w_t (pc := 4) (e_s := (0, 2, 0, 0, 0, .int 99, [])) (y_s := (6, [some (.ref _)], [.int _, .int _], _)) rfl (u_ rfl) ?_
  refine wi2 (pc := 6) (len_s := 3) (Y := 99) rfl rfl (by decide) (fun c1_s => ?_) (fun c1_s => ?_)
  · replace t_s := t_s.1 c1_s
    refine w_t (pc := 13) (e_s := (0, 1, 0, 0, 0, .int 0, [])) (y_s := (14, [some (.ref _)], [.int _], _)) rfl (u_ rfl) ?_
    refine wrI (pc := 14) (len_s := 1) rfl hk ?_
    show wF _ 40 (4, [some (.ref _), some (.ref _)], [.int _], _) _
    refine w_t (pc := 4) (e_s := (15, 3, 19, 1, 0, .null, [])) (y_s := (7, [some (.ref _), some (.ref _)], [], _)) rfl (u_ rfl) ?_
    refine w_t (pc := 7) (e_s := (3, 1, 0, 0, 0, .null, [])) (y_s := (8, [some (.ref _), some (.ref _)], [.ref _], _)) rfl (u_ rfl) ?_
    refine w_t (pc := 8) (e_s := (3, 1, 1, 0, 0, .null, [])) (y_s := (9, [some (.ref _), some (.ref _)], [.ref _, .ref _], _)) rfl (u_ rfl) ?_
    refine wcI (pc := 9) (len_s := 3) rfl rfl (l := [some (.ref _), some (.ref _)]) rfl ?_
    refine w_t (pc := 0) (e_s := (3, 1, 1, 0, 0, .null, [])) (y_s := (1, [some (.ref _), some (.ref _)], [.ref _], _)) rfl (u_ rfl) ?_
    refine w20 (pc := 1) (len_s := 3) rfl ?_
    refine w_t (pc := 4) (e_s := (3, 1, 0, 0, 0, .null, [])) (y_s := (5, [some (.ref _), some (.ref _)], [.ref _, .int _], _)) rfl (u_ rfl) ?_
    refine wcI (pc := 5) (len_s := 3) rfl rfl (l := [some (.ref _)]) rfl ?_
    refine w_t (pc := 0) (e_s := (0, 2, 0, 0, 0, .int 9, [])) (y_s := (2, [some (.ref _)], [.int _], _)) rfl (u_ rfl) ?_
    refine w_t (pc := 2) (e_s := (3, 1, 0, 0, 0, .null, [])) (y_s := (3, [some (.ref _)], [.ref _, .int _], _)) rfl (u_ rfl) ?_
    refine w20 (pc := 3) (len_s := 3) rfl ?_
    refine w_t (pc := 6) (e_s := (0, 2, 0, 0, 0, .int 11, [])) (y_s := (8, [some (.ref _)], [.int _, .int _, .int _], _)) rfl (u_ rfl) ?_
    refine w8 (pc := 8) (len_s := 1) rfl ?_
    refine w_t (pc := 9) (e_s := (7, 1, 0, 1, 0, .null, [])) (y_s := (10, [some (.ref _)], [.int (_ - _)], _)) rfl (u_ rfl) ?_
    refine wrI (pc := 10) (len_s := 1) rfl hk ?_
    show wF _ 39 (8, [some (.ref _), some (.ref _)], [.int _, .int _], _) _
    refine wi4 (pc := 8) (len_s := 3) rfl rfl rfl (fun c2_s => ?_) (fun c2_s => ?_)
    · replace t_s := t_s.1 c2_s
      refine w_t (pc := 15) (e_s := (0, 1, 0, 0, 0, .int 0, [])) (y_s := (16, [some (.ref _), some (.ref _)], [.int _], _)) rfl (u_ rfl) ?_
      refine wrI (pc := 16) (len_s := 1) rfl hk ?_
      show wF _ 40 (12, [some (.ref _), some (.ref _)], [.int _], _) _
      refine w_t (pc := 12) (e_s := (15, 3, 19, 0, 0, .null, [])) (y_s := (19, [some (.ref _), some (.ref _)], [], _)) rfl (u_ rfl) ?_
      refine w_t (pc := 19) (e_s := (0, 1, 0, 0, 0, .int 0, [])) (y_s := (20, [some (.ref _), some (.ref _)], [.int _], _)) rfl (u_ rfl) ?_
      refine wrI (pc := 20) (len_s := 1) rfl hk ?_
      show wF _ 24 (5, [some (.ref _), some (.ref _), some (.ref _), none, none], [.int _], _) _
      refine w_t (pc := 5) (e_s := (15, 3, 10, 1, 0, .null, [])) (y_s := (8, [some (.ref _), some (.ref _), some (.ref _), none, none], [], _)) rfl (u_ rfl) ?_
      refine w_t (pc := 8) (e_s := (0, 1, 0, 0, 0, .int 0, [])) (y_s := (9, [some (.ref _), some (.ref _), some (.ref _), none, none], [.int _], _)) rfl (u_ rfl) ?_
      exact wrI (pc := 9) (len_s := 1) rfl hk t_s
    · replace t_s := t_s.2 c2_s
      refine w_t (pc := 11) (e_s := (0, 1, 0, 0, 0, .int 1, [])) (y_s := (12, [some (.ref _), some (.ref _)], [.int _], _)) rfl (u_ rfl) ?_
      refine w_t (pc := 12) (e_s := (17, 3, 16, 0, 0, .null, [])) (y_s := (16, [some (.ref _), some (.ref _)], [.int _], _)) rfl (u_ rfl) ?_
      refine wrI (pc := 16) (len_s := 1) rfl hk ?_
      show wF _ 40 (12, [some (.ref _), some (.ref _)], [.int _], _) _
      refine w_t (pc := 12) (e_s := (15, 3, 19, 0, 0, .null, [])) (y_s := (15, [some (.ref _), some (.ref _)], [], _)) rfl (u_ rfl) ?_
      refine w_t (pc := 15) (e_s := (0, 1, 0, 0, 0, .int 1, [])) (y_s := (16, [some (.ref _), some (.ref _)], [.int _], _)) rfl (u_ rfl) ?_
      refine w_t (pc := 16) (e_s := (17, 3, 20, 0, 0, .null, [])) (y_s := (20, [some (.ref _), some (.ref _)], [.int _], _)) rfl (u_ rfl) ?_
      refine wrI (pc := 20) (len_s := 1) rfl hk ?_
      show wF _ 24 (5, [some (.ref _), some (.ref _), some (.ref _), none, none], [.int _], _) _
      refine w_t (pc := 5) (e_s := (15, 3, 10, 1, 0, .null, [])) (y_s := (10, [some (.ref _), some (.ref _), some (.ref _), none, none], [], _)) rfl (u_ rfl) ?_
      refine w_t (pc := 10) (e_s := (3, 1, 0, 0, 0, .null, [])) (y_s := (11, [some (.ref _), some (.ref _), some (.ref _), none, none], [.ref _], _)) rfl (u_ rfl) ?_
      refine w_t (pc := 11) (e_s := (3, 1, 1, 0, 0, .null, [])) (y_s := (12, [some (.ref _), some (.ref _), some (.ref _), none, none], [.ref _, .ref _], _)) rfl (u_ rfl) ?_
      refine w_t (pc := 12) (e_s := (3, 1, 2, 0, 0, .null, [])) (y_s := (13, [some (.ref _), some (.ref _), some (.ref _), none, none], [.ref _, .ref _, .ref _], _)) rfl (u_ rfl) ?_
      refine wcI (pc := 13) (len_s := 3) rfl rfl (l := [some (.ref _), some (.ref _), some (.ref _)]) rfl (wmI t_s (fun v3 h3 hk t_s => ?_))
      replace t_s := t_s hk
      refine w_t (pc := 16) (e_s := (4, 1, 3, 0, 0, .null, [])) (y_s := (17, [some (.ref _), some (.ref _), some (.ref _), some (.int _), none], [], _)) rfl (u_ rfl) ?_
      refine w_t (pc := 17) (e_s := (0, 1, 0, 0, 0, .int 1, [])) (y_s := (18, [some (.ref _), some (.ref _), some (.ref _), some (.int _), none], [.int _], _)) rfl (u_ rfl) ?_
      refine w_t (pc := 18) (e_s := (4, 2, 4, 0, 0, .null, [])) (y_s := (20, [some (.ref _), some (.ref _), some (.ref _), some (.int _), some (.int _)], [], _)) rfl (u_ rfl) ?_
      exact t_s
  · replace t_s := t_s.2 c1_s
    refine w_t (pc := 9) (e_s := (0, 1, 0, 0, 0, .int 1, [])) (y_s := (10, [some (.ref _)], [.int _], _)) rfl (u_ rfl) ?_
    refine w_t (pc := 10) (e_s := (17, 3, 14, 0, 0, .null, [])) (y_s := (14, [some (.ref _)], [.int _], _)) rfl (u_ rfl) ?_
    refine wrI (pc := 14) (len_s := 1) rfl hk ?_
    show wF _ 40 (4, [some (.ref _), some (.ref _)], [.int _], _) _
    refine w_t (pc := 4) (e_s := (15, 3, 19, 1, 0, .null, [])) (y_s := (19, [some (.ref _), some (.ref _)], [], _)) rfl (u_ rfl) ?_
    refine w_t (pc := 19) (e_s := (0, 1, 0, 0, 0, .int 0, [])) (y_s := (20, [some (.ref _), some (.ref _)], [.int _], _)) rfl (u_ rfl) ?_
    refine wrI (pc := 20) (len_s := 1) rfl hk ?_
    show wF _ 24 (5, [some (.ref _), some (.ref _), some (.ref _), none, none], [.int _], _) _
    refine w_t (pc := 5) (e_s := (15, 3, 10, 1, 0, .null, [])) (y_s := (8, [some (.ref _), some (.ref _), some (.ref _), none, none], [], _)) rfl (u_ rfl) ?_
    refine w_t (pc := 8) (e_s := (0, 1, 0, 0, 0, .int 0, [])) (y_s := (9, [some (.ref _), some (.ref _), some (.ref _), none, none], [.int _], _)) rfl (u_ rfl) ?_
    exact wrI (pc := 9) (len_s := 1) rfl hk t_s
/-- ColdShod$Country.travel(LColdShod$Idea;LColdShod$Road;)I, from 20 on -/
theorem sg_24_20 {F_s : Nat} {d_s ro : Nat} {x3 x4_s : Int32} {h_s : zH} {K_s : Int32 → zH → Prop} (hk : hKn h_s) (t_s : ((h_s.2.1 ro 2).toInt < x4_s.toInt → K_s ((zup h_s.2.1 d_s 3 (if 0 < ((h_s.2.1 d_s 3) - 1) then ((h_s.2.1 d_s 3) - 1) else 0)) ro 2) (h_s.1, zup h_s.2.1 d_s 3 (if 0 < ((h_s.2.1 d_s 3) - 1) then ((h_s.2.1 d_s 3) - 1) else 0), h_s.2.2.1, h_s.2.2.2)) ∧ (¬ (h_s.2.1 ro 2).toInt < x4_s.toInt → ((((zup h_s.2.1 d_s 2 (if ((h_s.2.1 d_s 2) + x3) < 99 then ((h_s.2.1 d_s 2) + x3) else 99)) d_s 2).toInt < 99 → (∀ q3_s, h_s.2.2.2 7 9 = some q3_s → q3_s = 14 ∨ q3_s = 17 → (((zup h_s.2.1 d_s 2 (if ((h_s.2.1 d_s 2) + x3) < 99 then ((h_s.2.1 d_s 2) + x3) else 99)) q3_s 0).toInt = 0 → wF F_s 24 (20, [some (.ref 7), some (.ref d_s), some (.ref ro), some (.int x3), some (.int (x4_s + 1))], [], (h_s.1, zup h_s.2.1 d_s 2 (if ((h_s.2.1 d_s 2) + x3) < 99 then ((h_s.2.1 d_s 2) + x3) else 99), h_s.2.2.1, h_s.2.2.2)) (gI K_s)) ∧ (¬ ((zup h_s.2.1 d_s 2 (if ((h_s.2.1 d_s 2) + x3) < 99 then ((h_s.2.1 d_s 2) + x3) else 99)) q3_s 0).toInt = 0 → ((0 < x3.toInt → ((x4_s.toInt < ((zup h_s.2.1 d_s 2 (if ((h_s.2.1 d_s 2) + x3) < 99 then ((h_s.2.1 d_s 2) + x3) else 99)) ro 2).toInt → wF F_s 23 (0, [some (.ref 7), some (.ref d_s), some (.ref ro)], [], (h_s.1, zup h_s.2.1 d_s 2 (if ((h_s.2.1 d_s 2) + x3) < 99 then ((h_s.2.1 d_s 2) + x3) else 99), h_s.2.2.1, h_s.2.2.2)) (gI (fun v7 h7 => hKn h7 → wF F_s 24 (20, [some (.ref 7), some (.ref d_s), some (.ref ro), some (.int v7), some (.int (x4_s + 1))], [], h7) (gI K_s)))) ∧ (¬ x4_s.toInt < ((zup h_s.2.1 d_s 2 (if ((h_s.2.1 d_s 2) + x3) < 99 then ((h_s.2.1 d_s 2) + x3) else 99)) ro 2).toInt → wF F_s 24 (20, [some (.ref 7), some (.ref d_s), some (.ref ro), some (.int x3), some (.int (x4_s + 1))], [], (h_s.1, zup h_s.2.1 d_s 2 (if ((h_s.2.1 d_s 2) + x3) < 99 then ((h_s.2.1 d_s 2) + x3) else 99), h_s.2.2.1, h_s.2.2.2)) (gI K_s)))) ∧ (¬ 0 < x3.toInt → wF F_s 24 (20, [some (.ref 7), some (.ref d_s), some (.ref ro), some (.int x3), some (.int (x4_s + 1))], [], (h_s.1, zup h_s.2.1 d_s 2 (if ((h_s.2.1 d_s 2) + x3) < 99 then ((h_s.2.1 d_s 2) + x3) else 99), h_s.2.2.1, h_s.2.2.2)) (gI K_s)))))) ∧ (¬ ((zup h_s.2.1 d_s 2 (if ((h_s.2.1 d_s 2) + x3) < 99 then ((h_s.2.1 d_s 2) + x3) else 99)) d_s 2).toInt < 99 → ((x4_s.toInt < ((zup h_s.2.1 d_s 2 (if ((h_s.2.1 d_s 2) + x3) < 99 then ((h_s.2.1 d_s 2) + x3) else 99)) ro 2).toInt → K_s x4_s (h_s.1, zup h_s.2.1 d_s 2 (if ((h_s.2.1 d_s 2) + x3) < 99 then ((h_s.2.1 d_s 2) + x3) else 99), h_s.2.2.1, h_s.2.2.2)) ∧ (¬ x4_s.toInt < ((zup h_s.2.1 d_s 2 (if ((h_s.2.1 d_s 2) + x3) < 99 then ((h_s.2.1 d_s 2) + x3) else 99)) ro 2).toInt → (∀ q9_s, h_s.2.2.2 7 9 = some q9_s → q9_s = 14 ∨ q9_s = 17 → (((zup h_s.2.1 d_s 2 (if ((h_s.2.1 d_s 2) + x3) < 99 then ((h_s.2.1 d_s 2) + x3) else 99)) q9_s 0).toInt = 0 → wF F_s 24 (20, [some (.ref 7), some (.ref d_s), some (.ref ro), some (.int x3), some (.int (x4_s + 1))], [], (h_s.1, zup h_s.2.1 d_s 2 (if ((h_s.2.1 d_s 2) + x3) < 99 then ((h_s.2.1 d_s 2) + x3) else 99), h_s.2.2.1, h_s.2.2.2)) (gI K_s)) ∧ (¬ ((zup h_s.2.1 d_s 2 (if ((h_s.2.1 d_s 2) + x3) < 99 then ((h_s.2.1 d_s 2) + x3) else 99)) q9_s 0).toInt = 0 → ((0 < x3.toInt → wF F_s 24 (20, [some (.ref 7), some (.ref d_s), some (.ref ro), some (.int x3), some (.int (x4_s + 1))], [], (h_s.1, zup h_s.2.1 d_s 2 (if ((h_s.2.1 d_s 2) + x3) < 99 then ((h_s.2.1 d_s 2) + x3) else 99), h_s.2.2.1, h_s.2.2.2)) (gI K_s)) ∧ (¬ 0 < x3.toInt → wF F_s 24 (20, [some (.ref 7), some (.ref d_s), some (.ref ro), some (.int x3), some (.int (x4_s + 1))], [], (h_s.1, zup h_s.2.1 d_s 2 (if ((h_s.2.1 d_s 2) + x3) < 99 then ((h_s.2.1 d_s 2) + x3) else 99), h_s.2.2.1, h_s.2.2.2)) (gI K_s))))))))))) : wF (F_s + 1) 24 (20, [some (.ref 7), some (.ref d_s), some (.ref ro), some (.int x3), some (.int x4_s)], [], h_s) (gI K_s) := by
  refine w_0 (pc := 20) (e_s := (1, 2, 4, 0, 0, .null, [])) (y_s := (22, [some (.ref _), some (.ref _), some (.ref _), some (.int _), some (.int _)], [.int _], _)) rfl (u_ rfl) ?_
  refine w_t (pc := 22) (e_s := (3, 1, 2, 0, 0, .null, [])) (y_s := (23, [some (.ref _), some (.ref _), some (.ref _), some (.int _), some (.int _)], [.ref _, .int _], _)) rfl (u_ rfl) ?_
  refine w20 (pc := 23) (len_s := 3) rfl ?_
  refine wi4 (pc := 26) (len_s := 3) rfl rfl rfl (fun c1_s => ?_) (fun c1_s => ?_)
  · replace t_s := t_s.1 c1_s
    refine w_t (pc := 89) (e_s := (3, 1, 1, 0, 0, .null, [])) (y_s := (90, [some (.ref _), some (.ref _), some (.ref _), some (.int _), some (.int _)], [.ref _], _)) rfl (u_ rfl) ?_
    refine w_t (pc := 90) (e_s := (0, 1, 0, 0, 0, .int 1, [])) (y_s := (91, [some (.ref _), some (.ref _), some (.ref _), some (.int _), some (.int _)], [.int _, .ref _], _)) rfl (u_ rfl) ?_
    refine wcV (pc := 91) (len_s := 3) rfl rfl (l := [some (.ref _), some (.int _)]) rfl ?_
    refine w_t (pc := 0) (e_s := (3, 1, 0, 0, 0, .null, [])) (y_s := (1, [some (.ref _), some (.int _)], [.ref _], _)) rfl (u_ rfl) ?_
    refine w_t (pc := 1) (e_s := (0, 1, 0, 0, 0, .int 0, [])) (y_s := (2, [some (.ref _), some (.int _)], [.int _, .ref _], _)) rfl (u_ rfl) ?_
    refine w_t (pc := 2) (e_s := (3, 1, 0, 0, 0, .null, [])) (y_s := (3, [some (.ref _), some (.int _)], [.ref _, .int _, .ref _], _)) rfl (u_ rfl) ?_
    refine w20 (pc := 3) (len_s := 3) rfl ?_
    refine w_t (pc := 6) (e_s := (1, 1, 1, 0, 0, .null, [])) (y_s := (7, [some (.ref _), some (.int _)], [.int _, .int _, .int _, .ref _], _)) rfl (u_ rfl) ?_
    refine w_t (pc := 7) (e_s := (7, 1, 0, 1, 0, .null, [])) (y_s := (8, [some (.ref _), some (.int _)], [.int (_ - _), .int _, .ref _], _)) rfl (u_ rfl) ?_
    refine w_t (pc := 8) (e_s := (31, 3, 0, 0, 0, .null, [(0, 812), (0, 783), (0, 784), (0, 777)])) (y_s := (11, [some (.ref _), some (.int _)], [.int _, .ref _], _)) rfl (u_ rfl) ?_
    refine w21 (pc := 11) (len_s := 3) rfl ?_
    refine wrV (pc := 14) (len_s := 1) rfl hk ?_
    show wF _ 24 (94, [some (.ref _), some (.ref _), some (.ref _), some (.int _), some (.int _)], [], _) _
    refine w_t (pc := 94) (e_s := (3, 1, 2, 0, 0, .null, [])) (y_s := (95, [some (.ref _), some (.ref _), some (.ref _), some (.int _), some (.int _)], [.ref _], _)) rfl (u_ rfl) ?_
    refine w20 (pc := 95) (len_s := 3) rfl ?_
    exact wrI (pc := 98) (len_s := 1) rfl hk t_s
  · replace t_s := t_s.2 c1_s
    refine w_t (pc := 29) (e_s := (3, 1, 1, 0, 0, .null, [])) (y_s := (30, [some (.ref _), some (.ref _), some (.ref _), some (.int _), some (.int _)], [.ref _], _)) rfl (u_ rfl) ?_
    refine w_t (pc := 30) (e_s := (1, 1, 3, 0, 0, .null, [])) (y_s := (31, [some (.ref _), some (.ref _), some (.ref _), some (.int _), some (.int _)], [.int _, .ref _], _)) rfl (u_ rfl) ?_
    refine wcV (pc := 31) (len_s := 3) rfl rfl (l := [some (.ref _), some (.int _)]) rfl ?_
    refine w_t (pc := 0) (e_s := (3, 1, 0, 0, 0, .null, [])) (y_s := (1, [some (.ref _), some (.int _)], [.ref _], _)) rfl (u_ rfl) ?_
    refine w_t (pc := 1) (e_s := (0, 2, 0, 0, 0, .int 99, [])) (y_s := (3, [some (.ref _), some (.int _)], [.int _, .ref _], _)) rfl (u_ rfl) ?_
    refine w_t (pc := 3) (e_s := (3, 1, 0, 0, 0, .null, [])) (y_s := (4, [some (.ref _), some (.int _)], [.ref _, .int _, .ref _], _)) rfl (u_ rfl) ?_
    refine w20 (pc := 4) (len_s := 3) rfl ?_
    refine w_t (pc := 7) (e_s := (1, 1, 1, 0, 0, .null, [])) (y_s := (8, [some (.ref _), some (.int _)], [.int _, .int _, .int _, .ref _], _)) rfl (u_ rfl) ?_
    refine w_t (pc := 8) (e_s := (7, 1, 0, 0, 0, .null, [])) (y_s := (9, [some (.ref _), some (.int _)], [.int (_ + _), .int _, .ref _], _)) rfl (u_ rfl) ?_
    refine w_t (pc := 9) (e_s := (31, 3, 0, 1, 0, .null, [(0, 811), (0, 780), (0, 781), (0, 777)])) (y_s := (12, [some (.ref _), some (.int _)], [.int _, .ref _], _)) rfl (u_ rfl) ?_
    refine w21 (pc := 12) (len_s := 3) rfl ?_
    refine wrV (pc := 15) (len_s := 1) rfl hk ?_
    show wF _ 24 (34, [some (.ref _), some (.ref _), some (.ref _), some (.int _), some (.int _)], [], _) _
    refine w_t (pc := 34) (e_s := (3, 1, 1, 0, 0, .null, [])) (y_s := (35, [some (.ref _), some (.ref _), some (.ref _), some (.int _), some (.int _)], [.ref _], _)) rfl (u_ rfl) ?_
    refine wcI (pc := 35) (len_s := 3) rfl rfl (l := [some (.ref _)]) rfl ?_
    refine w_t (pc := 0) (e_s := (3, 1, 0, 0, 0, .null, [])) (y_s := (1, [some (.ref _)], [.ref _], _)) rfl (u_ rfl) ?_
    refine w20 (pc := 1) (len_s := 3) rfl ?_
    refine w_t (pc := 4) (e_s := (0, 2, 0, 0, 0, .int 99, [])) (y_s := (6, [some (.ref _)], [.int _, .int _], _)) rfl (u_ rfl) ?_
    refine wi2 (pc := 6) (len_s := 3) (Y := 99) rfl rfl (by decide) (fun c2_s => ?_) (fun c2_s => ?_)
    · replace t_s := t_s.1 c2_s
      refine w_t (pc := 13) (e_s := (0, 1, 0, 0, 0, .int 0, [])) (y_s := (14, [some (.ref _)], [.int _], _)) rfl (u_ rfl) ?_
      refine wrI (pc := 14) (len_s := 1) rfl hk ?_
      show wF _ 24 (38, [some (.ref _), some (.ref _), some (.ref _), some (.int _), some (.int _)], [.int _], _) _
      refine w_t (pc := 38) (e_s := (15, 3, 53, 0, 0, .null, [])) (y_s := (53, [some (.ref _), some (.ref _), some (.ref _), some (.int _), some (.int _)], [], _)) rfl (u_ rfl) ?_
      refine w_t (pc := 53) (e_s := (3, 1, 0, 0, 0, .null, [])) (y_s := (54, [some (.ref _), some (.ref _), some (.ref _), some (.int _), some (.int _)], [.ref _], _)) rfl (u_ rfl) ?_
      obtain ⟨q3_s, r3, m3_s⟩ := krm hk (o := 7) (b_s := 9) rfl
      replace t_s := t_s q3_s r3 m3_s
      refine w20r (pc := 54) (len_s := 3) (q_s := q3_s) rfl r3 ?_
      refine w20 (pc := 57) (len_s := 3) rfl ?_
      refine wq0 (pc := 60) (len_s := 3) rfl rfl (fun c4_s => ?_) (fun c4_s => ?_)
      · replace t_s := t_s.1 c4_s
        refine w_t (pc := 83) (e_s := (19, 3, 4, 0, 0, .int 1, [])) (y_s := (86, [some (.ref _), some (.ref _), some (.ref _), some (.int _), some (.int _)], [], _)) rfl (u_ rfl) ?_
        refine w_t (pc := 86) (e_s := (17, 3, 20, 0, 0, .null, [])) (y_s := (20, [some (.ref _), some (.ref _), some (.ref _), some (.int _), some (.int _)], [], _)) rfl (u_ rfl) ?_
        exact t_s
      · replace t_s := t_s.2 c4_s
        refine w_t (pc := 63) (e_s := (1, 1, 3, 0, 0, .null, [])) (y_s := (64, [some (.ref _), some (.ref _), some (.ref _), some (.int _), some (.int _)], [.int _], _)) rfl (u_ rfl) ?_
        refine wq5 (pc := 64) (len_s := 3) rfl rfl (fun c5_s => ?_) (fun c5_s => ?_)
        · replace t_s := t_s.1 c5_s
          refine w_t (pc := 67) (e_s := (1, 2, 4, 0, 0, .null, [])) (y_s := (69, [some (.ref _), some (.ref _), some (.ref _), some (.int _), some (.int _)], [.int _], _)) rfl (u_ rfl) ?_
          refine w_t (pc := 69) (e_s := (3, 1, 2, 0, 0, .null, [])) (y_s := (70, [some (.ref _), some (.ref _), some (.ref _), some (.int _), some (.int _)], [.ref _, .int _], _)) rfl (u_ rfl) ?_
          refine w20 (pc := 70) (len_s := 3) rfl ?_
          refine wi3 (pc := 73) (len_s := 3) rfl rfl rfl (fun c6_s => ?_) (fun c6_s => ?_)
          · replace t_s := t_s.1 c6_s
            refine w_t (pc := 76) (e_s := (3, 1, 0, 0, 0, .null, [])) (y_s := (77, [some (.ref _), some (.ref _), some (.ref _), some (.int _), some (.int _)], [.ref _], _)) rfl (u_ rfl) ?_
            refine w_t (pc := 77) (e_s := (3, 1, 1, 0, 0, .null, [])) (y_s := (78, [some (.ref _), some (.ref _), some (.ref _), some (.int _), some (.int _)], [.ref _, .ref _], _)) rfl (u_ rfl) ?_
            refine w_t (pc := 78) (e_s := (3, 1, 2, 0, 0, .null, [])) (y_s := (79, [some (.ref _), some (.ref _), some (.ref _), some (.int _), some (.int _)], [.ref _, .ref _, .ref _], _)) rfl (u_ rfl) ?_
            refine wcI (pc := 79) (len_s := 3) rfl rfl (l := [some (.ref _), some (.ref _), some (.ref _)]) rfl (wmI t_s (fun v7 h7 hk t_s => ?_))
            replace t_s := t_s hk
            refine w_t (pc := 82) (e_s := (4, 1, 3, 0, 0, .null, [])) (y_s := (83, [some (.ref _), some (.ref _), some (.ref _), some (.int _), some (.int _)], [], _)) rfl (u_ rfl) ?_
            refine w_t (pc := 83) (e_s := (19, 3, 4, 0, 0, .int 1, [])) (y_s := (86, [some (.ref _), some (.ref _), some (.ref _), some (.int _), some (.int _)], [], _)) rfl (u_ rfl) ?_
            refine w_t (pc := 86) (e_s := (17, 3, 20, 0, 0, .null, [])) (y_s := (20, [some (.ref _), some (.ref _), some (.ref _), some (.int _), some (.int _)], [], _)) rfl (u_ rfl) ?_
            exact t_s
          · replace t_s := t_s.2 c6_s
            refine w_t (pc := 83) (e_s := (19, 3, 4, 0, 0, .int 1, [])) (y_s := (86, [some (.ref _), some (.ref _), some (.ref _), some (.int _), some (.int _)], [], _)) rfl (u_ rfl) ?_
            refine w_t (pc := 86) (e_s := (17, 3, 20, 0, 0, .null, [])) (y_s := (20, [some (.ref _), some (.ref _), some (.ref _), some (.int _), some (.int _)], [], _)) rfl (u_ rfl) ?_
            exact t_s
        · replace t_s := t_s.2 c5_s
          refine w_t (pc := 83) (e_s := (19, 3, 4, 0, 0, .int 1, [])) (y_s := (86, [some (.ref _), some (.ref _), some (.ref _), some (.int _), some (.int _)], [], _)) rfl (u_ rfl) ?_
          refine w_t (pc := 86) (e_s := (17, 3, 20, 0, 0, .null, [])) (y_s := (20, [some (.ref _), some (.ref _), some (.ref _), some (.int _), some (.int _)], [], _)) rfl (u_ rfl) ?_
          exact t_s
    · replace t_s := t_s.2 c2_s
      refine w_t (pc := 9) (e_s := (0, 1, 0, 0, 0, .int 1, [])) (y_s := (10, [some (.ref _)], [.int _], _)) rfl (u_ rfl) ?_
      refine w_t (pc := 10) (e_s := (17, 3, 14, 0, 0, .null, [])) (y_s := (14, [some (.ref _)], [.int _], _)) rfl (u_ rfl) ?_
      refine wrI (pc := 14) (len_s := 1) rfl hk ?_
      show wF _ 24 (38, [some (.ref _), some (.ref _), some (.ref _), some (.int _), some (.int _)], [.int _], _) _
      refine w_t (pc := 38) (e_s := (15, 3, 53, 0, 0, .null, [])) (y_s := (41, [some (.ref _), some (.ref _), some (.ref _), some (.int _), some (.int _)], [], _)) rfl (u_ rfl) ?_
      refine w_t (pc := 41) (e_s := (1, 2, 4, 0, 0, .null, [])) (y_s := (43, [some (.ref _), some (.ref _), some (.ref _), some (.int _), some (.int _)], [.int _], _)) rfl (u_ rfl) ?_
      refine w_t (pc := 43) (e_s := (3, 1, 2, 0, 0, .null, [])) (y_s := (44, [some (.ref _), some (.ref _), some (.ref _), some (.int _), some (.int _)], [.ref _, .int _], _)) rfl (u_ rfl) ?_
      refine w20 (pc := 44) (len_s := 3) rfl ?_
      refine wi3 (pc := 47) (len_s := 3) rfl rfl rfl (fun c8_s => ?_) (fun c8_s => ?_)
      · replace t_s := t_s.1 c8_s
        refine w_t (pc := 50) (e_s := (1, 2, 4, 0, 0, .null, [])) (y_s := (52, [some (.ref _), some (.ref _), some (.ref _), some (.int _), some (.int _)], [.int _], _)) rfl (u_ rfl) ?_
        exact wrI (pc := 52) (len_s := 1) rfl hk t_s
      · replace t_s := t_s.2 c8_s
        refine w_t (pc := 53) (e_s := (3, 1, 0, 0, 0, .null, [])) (y_s := (54, [some (.ref _), some (.ref _), some (.ref _), some (.int _), some (.int _)], [.ref _], _)) rfl (u_ rfl) ?_
        obtain ⟨q9_s, r9, m9_s⟩ := krm hk (o := 7) (b_s := 9) rfl
        replace t_s := t_s q9_s r9 m9_s
        refine w20r (pc := 54) (len_s := 3) (q_s := q9_s) rfl r9 ?_
        refine w20 (pc := 57) (len_s := 3) rfl ?_
        refine wq0 (pc := 60) (len_s := 3) rfl rfl (fun c10_s => ?_) (fun c10_s => ?_)
        · replace t_s := t_s.1 c10_s
          refine w_t (pc := 83) (e_s := (19, 3, 4, 0, 0, .int 1, [])) (y_s := (86, [some (.ref _), some (.ref _), some (.ref _), some (.int _), some (.int _)], [], _)) rfl (u_ rfl) ?_
          refine w_t (pc := 86) (e_s := (17, 3, 20, 0, 0, .null, [])) (y_s := (20, [some (.ref _), some (.ref _), some (.ref _), some (.int _), some (.int _)], [], _)) rfl (u_ rfl) ?_
          exact t_s
        · replace t_s := t_s.2 c10_s
          refine w_t (pc := 63) (e_s := (1, 1, 3, 0, 0, .null, [])) (y_s := (64, [some (.ref _), some (.ref _), some (.ref _), some (.int _), some (.int _)], [.int _], _)) rfl (u_ rfl) ?_
          refine wq5 (pc := 64) (len_s := 3) rfl rfl (fun c11_s => ?_) (fun c11_s => ?_)
          · replace t_s := t_s.1 c11_s
            refine w_t (pc := 67) (e_s := (1, 2, 4, 0, 0, .null, [])) (y_s := (69, [some (.ref _), some (.ref _), some (.ref _), some (.int _), some (.int _)], [.int _], _)) rfl (u_ rfl) ?_
            refine w_t (pc := 69) (e_s := (3, 1, 2, 0, 0, .null, [])) (y_s := (70, [some (.ref _), some (.ref _), some (.ref _), some (.int _), some (.int _)], [.ref _, .int _], _)) rfl (u_ rfl) ?_
            refine w20 (pc := 70) (len_s := 3) rfl ?_
            refine wi3 (pc := 73) (len_s := 3) rfl rfl rfl (fun c12_s => ?_) (fun c12_s => ?_)
            · exact absurd c12_s c8_s
            · skip
              refine w_t (pc := 83) (e_s := (19, 3, 4, 0, 0, .int 1, [])) (y_s := (86, [some (.ref _), some (.ref _), some (.ref _), some (.int _), some (.int _)], [], _)) rfl (u_ rfl) ?_
              refine w_t (pc := 86) (e_s := (17, 3, 20, 0, 0, .null, [])) (y_s := (20, [some (.ref _), some (.ref _), some (.ref _), some (.int _), some (.int _)], [], _)) rfl (u_ rfl) ?_
              exact t_s
          · replace t_s := t_s.2 c11_s
            refine w_t (pc := 83) (e_s := (19, 3, 4, 0, 0, .int 1, [])) (y_s := (86, [some (.ref _), some (.ref _), some (.ref _), some (.int _), some (.int _)], [], _)) rfl (u_ rfl) ?_
            refine w_t (pc := 86) (e_s := (17, 3, 20, 0, 0, .null, [])) (y_s := (20, [some (.ref _), some (.ref _), some (.ref _), some (.int _), some (.int _)], [], _)) rfl (u_ rfl) ?_
            exact t_s
/-- ColdShodModel.begins(I)V, from 0 on -/
theorem sg_178_0 {F_s : Nat} {x1_s : Int32} {h_s : zH} {K_s : zH → Prop} (hk : hKn h_s) (t_s : wF F_s 178 (2, [some (.ref 102), some (.int x1_s), some (.int 0)], [], h_s) (gV K_s)) : wF (F_s + 1) 178 (0, [some (.ref 102), some (.int x1_s), none], [], h_s) (gV K_s) := by
  refine w_0 (pc := 0) (e_s := (0, 1, 0, 0, 0, .int 0, [])) (y_s := (1, [some (.ref _), some (.int _), none], [.int _], _)) rfl (u_ rfl) ?_
  refine w_t (pc := 1) (e_s := (4, 1, 2, 0, 0, .null, [])) (y_s := (2, [some (.ref _), some (.int _), some (.int _)], [], _)) rfl (u_ rfl) ?_
  exact t_s
/-- ColdShodModel.begins(I)V, from 2 on -/
theorem sg_178_2 {F_s : Nat} {x1_s x2_s : Int32} {h_s : zH} {K_s : zH → Prop} (hk : hKn h_s) (t_s : (x2_s.toInt < 6 → (zix ((12 + (8 * x2_s)) + x1_s) < 104 → (zix x2_s < 7 → wF F_s 178 (2, [some (.ref 102), some (.int x1_s), some (.int (x2_s + 1))], [], (h_s.1, zup h_s.2.1 112 (zix x2_s) (h_s.2.1 103 (zix ((12 + (8 * x2_s)) + x1_s))), h_s.2.2.1, h_s.2.2.2)) (gV K_s)))) ∧ (¬ x2_s.toInt < 6 → (zix (60 + x1_s) < 104 → ((h_s.2.1 103 (zix (60 + x1_s))).toInt < 0 → K_s (h_s.1, zup h_s.2.1 112 6 (-1), h_s.2.2.1, h_s.2.2.2)) ∧ (¬ (h_s.2.1 103 (zix (60 + x1_s))).toInt < 0 → (zix (h_s.2.1 103 (zix (60 + x1_s))) < 104 → K_s (h_s.1, zup h_s.2.1 112 6 (h_s.2.1 103 (zix (h_s.2.1 103 (zix (60 + x1_s))))), h_s.2.2.1, h_s.2.2.2)))))) : wF (F_s + 1) 178 (2, [some (.ref 102), some (.int x1_s), some (.int x2_s)], [], h_s) (gV K_s) := by
  refine w_0 (pc := 2) (e_s := (1, 1, 2, 0, 0, .null, [])) (y_s := (3, [some (.ref _), some (.int _), some (.int _)], [.int _], _)) rfl (u_ rfl) ?_
  refine w_t (pc := 3) (e_s := (0, 2, 0, 0, 0, .int 6, [])) (y_s := (5, [some (.ref _), some (.int _), some (.int _)], [.int _, .int _], _)) rfl (u_ rfl) ?_
  refine wi3 (pc := 5) (len_s := 3) (Y := 6) rfl rfl (by decide) (fun c1_s => ?_) (fun c1_s => ?_)
  · replace t_s := t_s.1 c1_s
    refine w_t (pc := 8) (e_s := (3, 1, 0, 0, 0, .null, [])) (y_s := (9, [some (.ref _), some (.int _), some (.int _)], [.ref _], _)) rfl (u_ rfl) ?_
    refine w20r (pc := 9) (len_s := 3) (q_s := 112) rfl (krq hk rfl) ?_
    refine w_t (pc := 12) (e_s := (1, 1, 2, 0, 0, .null, [])) (y_s := (13, [some (.ref _), some (.int _), some (.int _)], [.int _, .ref _], _)) rfl (u_ rfl) ?_
    refine w_t (pc := 13) (e_s := (3, 1, 0, 0, 0, .null, [])) (y_s := (14, [some (.ref _), some (.int _), some (.int _)], [.ref _, .int _, .ref _], _)) rfl (u_ rfl) ?_
    refine w20r (pc := 14) (len_s := 3) (q_s := 103) rfl (krq hk rfl) ?_
    refine w_t (pc := 17) (e_s := (0, 2, 0, 0, 0, .int 12, [])) (y_s := (19, [some (.ref _), some (.int _), some (.int _)], [.int _, .ref _, .int _, .ref _], _)) rfl (u_ rfl) ?_
    refine w_t (pc := 19) (e_s := (0, 2, 0, 0, 0, .int 8, [])) (y_s := (21, [some (.ref _), some (.int _), some (.int _)], [.int _, .int _, .ref _, .int _, .ref _], _)) rfl (u_ rfl) ?_
    refine w_t (pc := 21) (e_s := (1, 1, 2, 0, 0, .null, [])) (y_s := (22, [some (.ref _), some (.int _), some (.int _)], [.int _, .int _, .int _, .ref _, .int _, .ref _], _)) rfl (u_ rfl) ?_
    refine w_t (pc := 22) (e_s := (7, 1, 0, 2, 0, .null, [])) (y_s := (23, [some (.ref _), some (.int _), some (.int _)], [.int (_ * _), .int _, .ref _, .int _, .ref _], _)) rfl (u_ rfl) ?_
    refine w_t (pc := 23) (e_s := (7, 1, 0, 0, 0, .null, [])) (y_s := (24, [some (.ref _), some (.int _), some (.int _)], [.int (_ + _), .ref _, .int _, .ref _], _)) rfl (u_ rfl) ?_
    refine w_t (pc := 24) (e_s := (1, 1, 1, 0, 0, .null, [])) (y_s := (25, [some (.ref _), some (.int _), some (.int _)], [.int _, .int _, .ref _, .int _, .ref _], _)) rfl (u_ rfl) ?_
    refine w_t (pc := 25) (e_s := (7, 1, 0, 0, 0, .null, [])) (y_s := (26, [some (.ref _), some (.int _), some (.int _)], [.int (_ + _), .ref _, .int _, .ref _], _)) rfl (u_ rfl) ?_
    refine w22 (pc := 26) (len_s := 1) rfl (hk.1 103 0 104 rfl rfl) (fun c2_s => ?_)
    replace t_s := t_s c2_s
    refine w25 (pc := 27) (len_s := 1) rfl (hk.1 112 0 7 rfl rfl) (fun c3_s => ?_)
    replace t_s := t_s c3_s
    refine w_t (pc := 28) (e_s := (19, 3, 2, 0, 0, .int 1, [])) (y_s := (31, [some (.ref _), some (.int _), some (.int _)], [], _)) rfl (u_ rfl) ?_
    refine w_t (pc := 31) (e_s := (17, 3, 2, 0, 0, .null, [])) (y_s := (2, [some (.ref _), some (.int _), some (.int _)], [], _)) rfl (u_ rfl) ?_
    exact t_s
  · replace t_s := t_s.2 c1_s
    refine w_t (pc := 34) (e_s := (3, 1, 0, 0, 0, .null, [])) (y_s := (35, [some (.ref _), some (.int _), some (.int _)], [.ref _], _)) rfl (u_ rfl) ?_
    refine w20r (pc := 35) (len_s := 3) (q_s := 112) rfl (krq hk rfl) ?_
    refine w_t (pc := 38) (e_s := (0, 2, 0, 0, 0, .int 6, [])) (y_s := (40, [some (.ref _), some (.int _), some (.int _)], [.int _, .ref _], _)) rfl (u_ rfl) ?_
    refine w_t (pc := 40) (e_s := (3, 1, 0, 0, 0, .null, [])) (y_s := (41, [some (.ref _), some (.int _), some (.int _)], [.ref _, .int _, .ref _], _)) rfl (u_ rfl) ?_
    refine w20r (pc := 41) (len_s := 3) (q_s := 103) rfl (krq hk rfl) ?_
    refine w_t (pc := 44) (e_s := (0, 2, 0, 0, 0, .int 60, [])) (y_s := (46, [some (.ref _), some (.int _), some (.int _)], [.int _, .ref _, .int _, .ref _], _)) rfl (u_ rfl) ?_
    refine w_t (pc := 46) (e_s := (1, 1, 1, 0, 0, .null, [])) (y_s := (47, [some (.ref _), some (.int _), some (.int _)], [.int _, .int _, .ref _, .int _, .ref _], _)) rfl (u_ rfl) ?_
    refine w_t (pc := 47) (e_s := (7, 1, 0, 0, 0, .null, [])) (y_s := (48, [some (.ref _), some (.int _), some (.int _)], [.int (_ + _), .ref _, .int _, .ref _], _)) rfl (u_ rfl) ?_
    refine w22 (pc := 48) (len_s := 1) rfl (hk.1 103 0 104 rfl rfl) (fun c4_s => ?_)
    replace t_s := t_s c4_s
    refine wq3 (pc := 49) (len_s := 3) rfl rfl (fun c5_s => ?_) (fun c5_s => ?_)
    · replace t_s := t_s.1 c5_s
      refine w_t (pc := 52) (e_s := (0, 1, 0, 0, 0, .int (-1), [])) (y_s := (53, [some (.ref _), some (.int _), some (.int _)], [.int _, .int _, .ref _], _)) rfl (u_ rfl) ?_
      refine w_t (pc := 53) (e_s := (17, 3, 70, 0, 0, .null, [])) (y_s := (70, [some (.ref _), some (.int _), some (.int _)], [.int _, .int _, .ref _], _)) rfl (u_ rfl) ?_
      refine w25 (pc := 70) (len_s := 1) rfl (hk.1 112 0 7 rfl rfl) (fun c6_s => ?_)
      exact wrV (pc := 71) (len_s := 1) rfl hk t_s
    · replace t_s := t_s.2 c5_s
      refine w_t (pc := 56) (e_s := (3, 1, 0, 0, 0, .null, [])) (y_s := (57, [some (.ref _), some (.int _), some (.int _)], [.ref _, .int _, .ref _], _)) rfl (u_ rfl) ?_
      refine w20r (pc := 57) (len_s := 3) (q_s := 103) rfl (krq hk rfl) ?_
      refine w_t (pc := 60) (e_s := (3, 1, 0, 0, 0, .null, [])) (y_s := (61, [some (.ref _), some (.int _), some (.int _)], [.ref _, .ref _, .int _, .ref _], _)) rfl (u_ rfl) ?_
      refine w20r (pc := 61) (len_s := 3) (q_s := 103) rfl (krq hk rfl) ?_
      refine w_t (pc := 64) (e_s := (0, 2, 0, 0, 0, .int 60, [])) (y_s := (66, [some (.ref _), some (.int _), some (.int _)], [.int _, .ref _, .ref _, .int _, .ref _], _)) rfl (u_ rfl) ?_
      refine w_t (pc := 66) (e_s := (1, 1, 1, 0, 0, .null, [])) (y_s := (67, [some (.ref _), some (.int _), some (.int _)], [.int _, .int _, .ref _, .ref _, .int _, .ref _], _)) rfl (u_ rfl) ?_
      refine w_t (pc := 67) (e_s := (7, 1, 0, 0, 0, .null, [])) (y_s := (68, [some (.ref _), some (.int _), some (.int _)], [.int (_ + _), .ref _, .ref _, .int _, .ref _], _)) rfl (u_ rfl) ?_
      refine w22 (pc := 68) (len_s := 1) rfl (hk.1 103 0 104 rfl rfl) (fun c7_s => ?_)
      refine w22 (pc := 69) (len_s := 1) rfl (hk.1 103 0 104 rfl rfl) (fun c8_s => ?_)
      replace t_s := t_s c8_s
      refine w25 (pc := 70) (len_s := 1) rfl (hk.1 112 0 7 rfl rfl) (fun c9_s => ?_)
      exact wrV (pc := 71) (len_s := 1) rfl hk t_s
/-- ColdShodModel.wearsNow(I)I, from 0 on -/
theorem sg_180_0 {F_s : Nat} {x1_s : Int32} {h_s : zH} {K_s : Int32 → zH → Prop} (hk : hKn h_s) (t_s : ((h_s.2.1 112 6).toInt < 0 → (zix (92 + x1_s) < 104 → ((h_s.2.1 102 14).toInt < 0 → (((((1 + (h_s.2.1 103 (zix (92 + x1_s)))) + (9 / 3)) - ((h_s.2.1 112 0) / 2)).toInt < 0 → K_s 0 h_s) ∧ (¬ (((1 + (h_s.2.1 103 (zix (92 + x1_s)))) + (9 / 3)) - ((h_s.2.1 112 0) / 2)).toInt < 0 → ((9 < (((1 + (h_s.2.1 103 (zix (92 + x1_s)))) + (9 / 3)) - ((h_s.2.1 112 0) / 2)).toInt → K_s 9 h_s) ∧ (¬ 9 < (((1 + (h_s.2.1 103 (zix (92 + x1_s)))) + (9 / 3)) - ((h_s.2.1 112 0) / 2)).toInt → K_s (((1 + (h_s.2.1 103 (zix (92 + x1_s)))) + (9 / 3)) - ((h_s.2.1 112 0) / 2)) h_s))))) ∧ (¬ (h_s.2.1 102 14).toInt < 0 → (zix (80 + x1_s) < 104 → wF F_s 176 (0, [some (.ref 102), some (.int 0), some (.int (h_s.2.1 102 14)), none, none, none, none, none], [], (h_s.1, zup (zup (zup (zup (zup (zup h_s.2.1 111 0 (h_s.2.1 112 0)) 111 1 (h_s.2.1 112 2)) 111 2 (h_s.2.1 112 3)) 111 3 9) 111 4 (h_s.2.1 103 (zix (80 + x1_s)))) 111 5 (h_s.2.1 103 (zix (92 + x1_s))), h_s.2.2.1, h_s.2.2.2)) (gI (fun v19 h19 => hKn h19 → (v19.toInt < 0 → K_s 0 h19) ∧ (¬ v19.toInt < 0 → ((9 < v19.toInt → K_s 9 h19) ∧ (¬ 9 < v19.toInt → K_s v19 h19))))))))) ∧ (¬ (h_s.2.1 112 6).toInt < 0 → ((((h_s.2.1 112 1) - (h_s.2.1 112 6)).toInt < 0 → (zix (92 + x1_s) < 104 → ((h_s.2.1 102 14).toInt < 0 → (((((1 + (h_s.2.1 103 (zix (92 + x1_s)))) + ((-((h_s.2.1 112 1) - (h_s.2.1 112 6))) / 3)) - ((h_s.2.1 112 0) / 2)).toInt < 0 → K_s 0 h_s) ∧ (¬ (((1 + (h_s.2.1 103 (zix (92 + x1_s)))) + ((-((h_s.2.1 112 1) - (h_s.2.1 112 6))) / 3)) - ((h_s.2.1 112 0) / 2)).toInt < 0 → ((9 < (((1 + (h_s.2.1 103 (zix (92 + x1_s)))) + ((-((h_s.2.1 112 1) - (h_s.2.1 112 6))) / 3)) - ((h_s.2.1 112 0) / 2)).toInt → K_s 9 h_s) ∧ (¬ 9 < (((1 + (h_s.2.1 103 (zix (92 + x1_s)))) + ((-((h_s.2.1 112 1) - (h_s.2.1 112 6))) / 3)) - ((h_s.2.1 112 0) / 2)).toInt → K_s (((1 + (h_s.2.1 103 (zix (92 + x1_s)))) + ((-((h_s.2.1 112 1) - (h_s.2.1 112 6))) / 3)) - ((h_s.2.1 112 0) / 2)) h_s))))) ∧ (¬ (h_s.2.1 102 14).toInt < 0 → (zix (80 + x1_s) < 104 → wF F_s 176 (0, [some (.ref 102), some (.int 0), some (.int (h_s.2.1 102 14)), none, none, none, none, none], [], (h_s.1, zup (zup (zup (zup (zup (zup h_s.2.1 111 0 (h_s.2.1 112 0)) 111 1 (h_s.2.1 112 2)) 111 2 (h_s.2.1 112 3)) 111 3 (-((h_s.2.1 112 1) - (h_s.2.1 112 6)))) 111 4 (h_s.2.1 103 (zix (80 + x1_s)))) 111 5 (h_s.2.1 103 (zix (92 + x1_s))), h_s.2.2.1, h_s.2.2.2)) (gI (fun v41 h41 => hKn h41 → (v41.toInt < 0 → K_s 0 h41) ∧ (¬ v41.toInt < 0 → ((9 < v41.toInt → K_s 9 h41) ∧ (¬ 9 < v41.toInt → K_s v41 h41))))))))) ∧ (¬ ((h_s.2.1 112 1) - (h_s.2.1 112 6)).toInt < 0 → (zix (92 + x1_s) < 104 → ((h_s.2.1 102 14).toInt < 0 → (((((1 + (h_s.2.1 103 (zix (92 + x1_s)))) + (((h_s.2.1 112 1) - (h_s.2.1 112 6)) / 3)) - ((h_s.2.1 112 0) / 2)).toInt < 0 → K_s 0 h_s) ∧ (¬ (((1 + (h_s.2.1 103 (zix (92 + x1_s)))) + (((h_s.2.1 112 1) - (h_s.2.1 112 6)) / 3)) - ((h_s.2.1 112 0) / 2)).toInt < 0 → ((9 < (((1 + (h_s.2.1 103 (zix (92 + x1_s)))) + (((h_s.2.1 112 1) - (h_s.2.1 112 6)) / 3)) - ((h_s.2.1 112 0) / 2)).toInt → K_s 9 h_s) ∧ (¬ 9 < (((1 + (h_s.2.1 103 (zix (92 + x1_s)))) + (((h_s.2.1 112 1) - (h_s.2.1 112 6)) / 3)) - ((h_s.2.1 112 0) / 2)).toInt → K_s (((1 + (h_s.2.1 103 (zix (92 + x1_s)))) + (((h_s.2.1 112 1) - (h_s.2.1 112 6)) / 3)) - ((h_s.2.1 112 0) / 2)) h_s))))) ∧ (¬ (h_s.2.1 102 14).toInt < 0 → (zix (80 + x1_s) < 104 → wF F_s 176 (0, [some (.ref 102), some (.int 0), some (.int (h_s.2.1 102 14)), none, none, none, none, none], [], (h_s.1, zup (zup (zup (zup (zup (zup h_s.2.1 111 0 (h_s.2.1 112 0)) 111 1 (h_s.2.1 112 2)) 111 2 (h_s.2.1 112 3)) 111 3 ((h_s.2.1 112 1) - (h_s.2.1 112 6))) 111 4 (h_s.2.1 103 (zix (80 + x1_s)))) 111 5 (h_s.2.1 103 (zix (92 + x1_s))), h_s.2.2.1, h_s.2.2.2)) (gI (fun v60 h60 => hKn h60 → (v60.toInt < 0 → K_s 0 h60) ∧ (¬ v60.toInt < 0 → ((9 < v60.toInt → K_s 9 h60) ∧ (¬ 9 < v60.toInt → K_s v60 h60)))))))))))) : wF (F_s + 1) 180 (0, [some (.ref 102), some (.int x1_s), none, none], [], h_s) (gI K_s) := by
  refine w_0 (pc := 0) (e_s := (3, 1, 0, 0, 0, .null, [])) (y_s := (1, [some (.ref _), some (.int _), none, none], [.ref _], _)) rfl (u_ rfl) ?_
  refine w20r (pc := 1) (len_s := 3) (q_s := 112) rfl (krq hk rfl) ?_
  refine w_t (pc := 4) (e_s := (0, 2, 0, 0, 0, .int 6, [])) (y_s := (6, [some (.ref _), some (.int _), none, none], [.int _, .ref _], _)) rfl (u_ rfl) ?_
  refine w22 (pc := 6) (len_s := 1) rfl (hk.1 112 0 7 rfl rfl) (fun c1_s => ?_)
  refine wq3 (pc := 7) (len_s := 3) rfl rfl (fun c2_s => ?_) (fun c2_s => ?_)
  · replace t_s := t_s.1 c2_s
    refine w_t (pc := 10) (e_s := (0, 2, 0, 0, 0, .int 9, [])) (y_s := (12, [some (.ref _), some (.int _), none, none], [.int _], _)) rfl (u_ rfl) ?_
    refine w_t (pc := 12) (e_s := (17, 3, 32, 0, 0, .null, [])) (y_s := (32, [some (.ref _), some (.int _), none, none], [.int _], _)) rfl (u_ rfl) ?_
    refine w_t (pc := 32) (e_s := (4, 1, 2, 0, 0, .null, [])) (y_s := (33, [some (.ref _), some (.int _), some (.int _), none], [], _)) rfl (u_ rfl) ?_
    refine w_t (pc := 33) (e_s := (0, 1, 0, 0, 0, .int 1, [])) (y_s := (34, [some (.ref _), some (.int _), some (.int _), none], [.int _], _)) rfl (u_ rfl) ?_
    refine w_t (pc := 34) (e_s := (3, 1, 0, 0, 0, .null, [])) (y_s := (35, [some (.ref _), some (.int _), some (.int _), none], [.ref _, .int _], _)) rfl (u_ rfl) ?_
    refine w20r (pc := 35) (len_s := 3) (q_s := 103) rfl (krq hk rfl) ?_
    refine w_t (pc := 38) (e_s := (0, 2, 0, 0, 0, .int 92, [])) (y_s := (40, [some (.ref _), some (.int _), some (.int _), none], [.int _, .ref _, .int _], _)) rfl (u_ rfl) ?_
    refine w_t (pc := 40) (e_s := (1, 1, 1, 0, 0, .null, [])) (y_s := (41, [some (.ref _), some (.int _), some (.int _), none], [.int _, .int _, .ref _, .int _], _)) rfl (u_ rfl) ?_
    refine w_t (pc := 41) (e_s := (7, 1, 0, 0, 0, .null, [])) (y_s := (42, [some (.ref _), some (.int _), some (.int _), none], [.int (_ + _), .ref _, .int _], _)) rfl (u_ rfl) ?_
    refine w22 (pc := 42) (len_s := 1) rfl (hk.1 103 0 104 rfl rfl) (fun c3_s => ?_)
    replace t_s := t_s c3_s
    refine w_t (pc := 43) (e_s := (7, 1, 0, 0, 0, .null, [])) (y_s := (44, [some (.ref _), some (.int _), some (.int _), none], [.int (_ + _)], _)) rfl (u_ rfl) ?_
    refine w_t (pc := 44) (e_s := (1, 1, 2, 0, 0, .null, [])) (y_s := (45, [some (.ref _), some (.int _), some (.int _), none], [.int _, .int _], _)) rfl (u_ rfl) ?_
    refine w_t (pc := 45) (e_s := (0, 1, 0, 0, 0, .int 3, [])) (y_s := (46, [some (.ref _), some (.int _), some (.int _), none], [.int _, .int _, .int _], _)) rfl (u_ rfl) ?_
    refine w8 (pc := 46) (len_s := 1) rfl ?_
    refine w_t (pc := 47) (e_s := (7, 1, 0, 0, 0, .null, [])) (y_s := (48, [some (.ref _), some (.int _), some (.int _), none], [.int (_ + _)], _)) rfl (u_ rfl) ?_
    refine w_t (pc := 48) (e_s := (3, 1, 0, 0, 0, .null, [])) (y_s := (49, [some (.ref _), some (.int _), some (.int _), none], [.ref _, .int _], _)) rfl (u_ rfl) ?_
    refine w20r (pc := 49) (len_s := 3) (q_s := 112) rfl (krq hk rfl) ?_
    refine w_t (pc := 52) (e_s := (0, 1, 0, 0, 0, .int 0, [])) (y_s := (53, [some (.ref _), some (.int _), some (.int _), none], [.int _, .ref _, .int _], _)) rfl (u_ rfl) ?_
    refine w22 (pc := 53) (len_s := 1) rfl (hk.1 112 0 7 rfl rfl) (fun c4_s => ?_)
    refine w_t (pc := 54) (e_s := (0, 1, 0, 0, 0, .int 2, [])) (y_s := (55, [some (.ref _), some (.int _), some (.int _), none], [.int _, .int _, .int _], _)) rfl (u_ rfl) ?_
    refine w8 (pc := 55) (len_s := 1) rfl ?_
    refine w_t (pc := 56) (e_s := (7, 1, 0, 1, 0, .null, [])) (y_s := (57, [some (.ref _), some (.int _), some (.int _), none], [.int (_ - _)], _)) rfl (u_ rfl) ?_
    refine w_t (pc := 57) (e_s := (4, 1, 3, 0, 0, .null, [])) (y_s := (58, [some (.ref _), some (.int _), some (.int _), some (.int _)], [], _)) rfl (u_ rfl) ?_
    refine w_t (pc := 58) (e_s := (3, 1, 0, 0, 0, .null, [])) (y_s := (59, [some (.ref _), some (.int _), some (.int _), some (.int _)], [.ref _], _)) rfl (u_ rfl) ?_
    refine w20 (pc := 59) (len_s := 3) rfl ?_
    refine wq2 (pc := 62) (len_s := 3) rfl rfl (fun c5_s => ?_) (fun c5_s => ?_)
    · replace t_s := t_s.1 c5_s
      refine w_t (pc := 148) (e_s := (1, 1, 3, 0, 0, .null, [])) (y_s := (149, [some (.ref _), some (.int _), some (.int _), some (.int _)], [.int _], _)) rfl (u_ rfl) ?_
      refine wq3 (pc := 149) (len_s := 3) rfl rfl (fun c6_s => ?_) (fun c6_s => ?_)
      · replace t_s := t_s.1 c6_s
        refine w_t (pc := 152) (e_s := (0, 1, 0, 0, 0, .int 0, [])) (y_s := (153, [some (.ref _), some (.int _), some (.int _), some (.int _)], [.int _], _)) rfl (u_ rfl) ?_
        refine w_t (pc := 153) (e_s := (17, 3, 168, 0, 0, .null, [])) (y_s := (168, [some (.ref _), some (.int _), some (.int _), some (.int _)], [.int _], _)) rfl (u_ rfl) ?_
        exact wrI (pc := 168) (len_s := 1) rfl hk t_s
      · replace t_s := t_s.2 c6_s
        refine w_t (pc := 156) (e_s := (1, 1, 3, 0, 0, .null, [])) (y_s := (157, [some (.ref _), some (.int _), some (.int _), some (.int _)], [.int _], _)) rfl (u_ rfl) ?_
        refine w_t (pc := 157) (e_s := (0, 2, 0, 0, 0, .int 9, [])) (y_s := (159, [some (.ref _), some (.int _), some (.int _), some (.int _)], [.int _, .int _], _)) rfl (u_ rfl) ?_
        refine wi5 (pc := 159) (len_s := 3) (Y := 9) rfl rfl (by decide) (fun c7_s => ?_) (fun c7_s => ?_)
        · replace t_s := t_s.1 c7_s
          refine w_t (pc := 162) (e_s := (0, 2, 0, 0, 0, .int 9, [])) (y_s := (164, [some (.ref _), some (.int _), some (.int _), some (.int _)], [.int _], _)) rfl (u_ rfl) ?_
          refine w_t (pc := 164) (e_s := (17, 3, 168, 0, 0, .null, [])) (y_s := (168, [some (.ref _), some (.int _), some (.int _), some (.int _)], [.int _], _)) rfl (u_ rfl) ?_
          exact wrI (pc := 168) (len_s := 1) rfl hk t_s
        · replace t_s := t_s.2 c7_s
          refine w_t (pc := 167) (e_s := (1, 1, 3, 0, 0, .null, [])) (y_s := (168, [some (.ref _), some (.int _), some (.int _), some (.int _)], [.int _], _)) rfl (u_ rfl) ?_
          exact wrI (pc := 168) (len_s := 1) rfl hk t_s
    · replace t_s := t_s.2 c5_s
      refine w_t (pc := 65) (e_s := (3, 1, 0, 0, 0, .null, [])) (y_s := (66, [some (.ref _), some (.int _), some (.int _), some (.int _)], [.ref _], _)) rfl (u_ rfl) ?_
      refine w20r (pc := 66) (len_s := 3) (q_s := 111) rfl (krq hk rfl) ?_
      refine w_t (pc := 69) (e_s := (0, 1, 0, 0, 0, .int 0, [])) (y_s := (70, [some (.ref _), some (.int _), some (.int _), some (.int _)], [.int _, .ref _], _)) rfl (u_ rfl) ?_
      refine w_t (pc := 70) (e_s := (3, 1, 0, 0, 0, .null, [])) (y_s := (71, [some (.ref _), some (.int _), some (.int _), some (.int _)], [.ref _, .int _, .ref _], _)) rfl (u_ rfl) ?_
      refine w20r (pc := 71) (len_s := 3) (q_s := 112) rfl (krq hk rfl) ?_
      refine w_t (pc := 74) (e_s := (0, 1, 0, 0, 0, .int 0, [])) (y_s := (75, [some (.ref _), some (.int _), some (.int _), some (.int _)], [.int _, .ref _, .int _, .ref _], _)) rfl (u_ rfl) ?_
      refine w22 (pc := 75) (len_s := 1) rfl (hk.1 112 0 7 rfl rfl) (fun c8_s => ?_)
      refine w25 (pc := 76) (len_s := 1) rfl (hk.1 111 0 6 rfl rfl) (fun c9_s => ?_)
      refine w_t (pc := 77) (e_s := (3, 1, 0, 0, 0, .null, [])) (y_s := (78, [some (.ref _), some (.int _), some (.int _), some (.int _)], [.ref _], _)) rfl (u_ rfl) ?_
      refine w20r (pc := 78) (len_s := 3) (q_s := 111) rfl (krq hk rfl) ?_
      refine w_t (pc := 81) (e_s := (0, 1, 0, 0, 0, .int 1, [])) (y_s := (82, [some (.ref _), some (.int _), some (.int _), some (.int _)], [.int _, .ref _], _)) rfl (u_ rfl) ?_
      refine w_t (pc := 82) (e_s := (3, 1, 0, 0, 0, .null, [])) (y_s := (83, [some (.ref _), some (.int _), some (.int _), some (.int _)], [.ref _, .int _, .ref _], _)) rfl (u_ rfl) ?_
      refine w20r (pc := 83) (len_s := 3) (q_s := 112) rfl (krq hk rfl) ?_
      refine w_t (pc := 86) (e_s := (0, 1, 0, 0, 0, .int 2, [])) (y_s := (87, [some (.ref _), some (.int _), some (.int _), some (.int _)], [.int _, .ref _, .int _, .ref _], _)) rfl (u_ rfl) ?_
      refine w22 (pc := 87) (len_s := 1) rfl (hk.1 112 0 7 rfl rfl) (fun c10_s => ?_)
      refine w25 (pc := 88) (len_s := 1) rfl (hk.1 111 0 6 rfl rfl) (fun c11_s => ?_)
      refine w_t (pc := 89) (e_s := (3, 1, 0, 0, 0, .null, [])) (y_s := (90, [some (.ref _), some (.int _), some (.int _), some (.int _)], [.ref _], _)) rfl (u_ rfl) ?_
      refine w20r (pc := 90) (len_s := 3) (q_s := 111) rfl (krq hk rfl) ?_
      refine w_t (pc := 93) (e_s := (0, 1, 0, 0, 0, .int 2, [])) (y_s := (94, [some (.ref _), some (.int _), some (.int _), some (.int _)], [.int _, .ref _], _)) rfl (u_ rfl) ?_
      refine w_t (pc := 94) (e_s := (3, 1, 0, 0, 0, .null, [])) (y_s := (95, [some (.ref _), some (.int _), some (.int _), some (.int _)], [.ref _, .int _, .ref _], _)) rfl (u_ rfl) ?_
      refine w20r (pc := 95) (len_s := 3) (q_s := 112) rfl (krq hk rfl) ?_
      refine w_t (pc := 98) (e_s := (0, 1, 0, 0, 0, .int 3, [])) (y_s := (99, [some (.ref _), some (.int _), some (.int _), some (.int _)], [.int _, .ref _, .int _, .ref _], _)) rfl (u_ rfl) ?_
      refine w22 (pc := 99) (len_s := 1) rfl (hk.1 112 0 7 rfl rfl) (fun c12_s => ?_)
      refine w25 (pc := 100) (len_s := 1) rfl (hk.1 111 0 6 rfl rfl) (fun c13_s => ?_)
      refine w_t (pc := 101) (e_s := (3, 1, 0, 0, 0, .null, [])) (y_s := (102, [some (.ref _), some (.int _), some (.int _), some (.int _)], [.ref _], _)) rfl (u_ rfl) ?_
      refine w20r (pc := 102) (len_s := 3) (q_s := 111) rfl (krq hk rfl) ?_
      refine w_t (pc := 105) (e_s := (0, 1, 0, 0, 0, .int 3, [])) (y_s := (106, [some (.ref _), some (.int _), some (.int _), some (.int _)], [.int _, .ref _], _)) rfl (u_ rfl) ?_
      refine w_t (pc := 106) (e_s := (1, 1, 2, 0, 0, .null, [])) (y_s := (107, [some (.ref _), some (.int _), some (.int _), some (.int _)], [.int _, .int _, .ref _], _)) rfl (u_ rfl) ?_
      refine w25 (pc := 107) (len_s := 1) rfl (hk.1 111 0 6 rfl rfl) (fun c14_s => ?_)
      refine w_t (pc := 108) (e_s := (3, 1, 0, 0, 0, .null, [])) (y_s := (109, [some (.ref _), some (.int _), some (.int _), some (.int _)], [.ref _], _)) rfl (u_ rfl) ?_
      refine w20r (pc := 109) (len_s := 3) (q_s := 111) rfl (krq hk rfl) ?_
      refine w_t (pc := 112) (e_s := (0, 1, 0, 0, 0, .int 4, [])) (y_s := (113, [some (.ref _), some (.int _), some (.int _), some (.int _)], [.int _, .ref _], _)) rfl (u_ rfl) ?_
      refine w_t (pc := 113) (e_s := (3, 1, 0, 0, 0, .null, [])) (y_s := (114, [some (.ref _), some (.int _), some (.int _), some (.int _)], [.ref _, .int _, .ref _], _)) rfl (u_ rfl) ?_
      refine w20r (pc := 114) (len_s := 3) (q_s := 103) rfl (krq hk rfl) ?_
      refine w_t (pc := 117) (e_s := (0, 2, 0, 0, 0, .int 80, [])) (y_s := (119, [some (.ref _), some (.int _), some (.int _), some (.int _)], [.int _, .ref _, .int _, .ref _], _)) rfl (u_ rfl) ?_
      refine w_t (pc := 119) (e_s := (1, 1, 1, 0, 0, .null, [])) (y_s := (120, [some (.ref _), some (.int _), some (.int _), some (.int _)], [.int _, .int _, .ref _, .int _, .ref _], _)) rfl (u_ rfl) ?_
      refine w_t (pc := 120) (e_s := (7, 1, 0, 0, 0, .null, [])) (y_s := (121, [some (.ref _), some (.int _), some (.int _), some (.int _)], [.int (_ + _), .ref _, .int _, .ref _], _)) rfl (u_ rfl) ?_
      refine w22 (pc := 121) (len_s := 1) rfl (hk.1 103 0 104 rfl rfl) (fun c15_s => ?_)
      replace t_s := t_s c15_s
      refine w25 (pc := 122) (len_s := 1) rfl (hk.1 111 0 6 rfl rfl) (fun c16 => ?_)
      refine w_t (pc := 123) (e_s := (3, 1, 0, 0, 0, .null, [])) (y_s := (124, [some (.ref _), some (.int _), some (.int _), some (.int _)], [.ref _], _)) rfl (u_ rfl) ?_
      refine w20r (pc := 124) (len_s := 3) (q_s := 111) rfl (krq hk rfl) ?_
      refine w_t (pc := 127) (e_s := (0, 1, 0, 0, 0, .int 5, [])) (y_s := (128, [some (.ref _), some (.int _), some (.int _), some (.int _)], [.int _, .ref _], _)) rfl (u_ rfl) ?_
      refine w_t (pc := 128) (e_s := (3, 1, 0, 0, 0, .null, [])) (y_s := (129, [some (.ref _), some (.int _), some (.int _), some (.int _)], [.ref _, .int _, .ref _], _)) rfl (u_ rfl) ?_
      refine w20r (pc := 129) (len_s := 3) (q_s := 103) rfl (krq hk rfl) ?_
      refine w_t (pc := 132) (e_s := (0, 2, 0, 0, 0, .int 92, [])) (y_s := (134, [some (.ref _), some (.int _), some (.int _), some (.int _)], [.int _, .ref _, .int _, .ref _], _)) rfl (u_ rfl) ?_
      refine w_t (pc := 134) (e_s := (1, 1, 1, 0, 0, .null, [])) (y_s := (135, [some (.ref _), some (.int _), some (.int _), some (.int _)], [.int _, .int _, .ref _, .int _, .ref _], _)) rfl (u_ rfl) ?_
      refine w_t (pc := 135) (e_s := (7, 1, 0, 0, 0, .null, [])) (y_s := (136, [some (.ref _), some (.int _), some (.int _), some (.int _)], [.int (_ + _), .ref _, .int _, .ref _], _)) rfl (u_ rfl) ?_
      refine w22 (pc := 136) (len_s := 1) rfl (hk.1 103 0 104 rfl rfl) (fun c17 => ?_)
      refine w25 (pc := 137) (len_s := 1) rfl (hk.1 111 0 6 rfl rfl) (fun c18_s => ?_)
      refine w_t (pc := 138) (e_s := (3, 1, 0, 0, 0, .null, [])) (y_s := (139, [some (.ref _), some (.int _), some (.int _), some (.int _)], [.ref _], _)) rfl (u_ rfl) ?_
      refine w_t (pc := 139) (e_s := (0, 1, 0, 0, 0, .int 0, [])) (y_s := (140, [some (.ref _), some (.int _), some (.int _), some (.int _)], [.int _, .ref _], _)) rfl (u_ rfl) ?_
      refine w_t (pc := 140) (e_s := (3, 1, 0, 0, 0, .null, [])) (y_s := (141, [some (.ref _), some (.int _), some (.int _), some (.int _)], [.ref _, .int _, .ref _], _)) rfl (u_ rfl) ?_
      refine w20 (pc := 141) (len_s := 3) rfl ?_
      refine wcI (pc := 144) (len_s := 3) rfl rfl (l := [some (.ref _), some (.int _), some (.int _), none, none, none, none, none]) rfl (wmI t_s (fun v19 h19 hk t_s => ?_))
      replace t_s := t_s hk
      refine w_t (pc := 147) (e_s := (4, 1, 3, 0, 0, .null, [])) (y_s := (148, [some (.ref _), some (.int _), some (.int _), some (.int _)], [], _)) rfl (u_ rfl) ?_
      refine w_t (pc := 148) (e_s := (1, 1, 3, 0, 0, .null, [])) (y_s := (149, [some (.ref _), some (.int _), some (.int _), some (.int _)], [.int _], _)) rfl (u_ rfl) ?_
      refine wq3 (pc := 149) (len_s := 3) rfl rfl (fun c20_s => ?_) (fun c20_s => ?_)
      · replace t_s := t_s.1 c20_s
        refine w_t (pc := 152) (e_s := (0, 1, 0, 0, 0, .int 0, [])) (y_s := (153, [some (.ref _), some (.int _), some (.int _), some (.int _)], [.int _], _)) rfl (u_ rfl) ?_
        refine w_t (pc := 153) (e_s := (17, 3, 168, 0, 0, .null, [])) (y_s := (168, [some (.ref _), some (.int _), some (.int _), some (.int _)], [.int _], _)) rfl (u_ rfl) ?_
        exact wrI (pc := 168) (len_s := 1) rfl hk t_s
      · replace t_s := t_s.2 c20_s
        refine w_t (pc := 156) (e_s := (1, 1, 3, 0, 0, .null, [])) (y_s := (157, [some (.ref _), some (.int _), some (.int _), some (.int _)], [.int _], _)) rfl (u_ rfl) ?_
        refine w_t (pc := 157) (e_s := (0, 2, 0, 0, 0, .int 9, [])) (y_s := (159, [some (.ref _), some (.int _), some (.int _), some (.int _)], [.int _, .int _], _)) rfl (u_ rfl) ?_
        refine wi5 (pc := 159) (len_s := 3) (Y := 9) rfl rfl (by decide) (fun c21 => ?_) (fun c21 => ?_)
        · replace t_s := t_s.1 c21
          refine w_t (pc := 162) (e_s := (0, 2, 0, 0, 0, .int 9, [])) (y_s := (164, [some (.ref _), some (.int _), some (.int _), some (.int _)], [.int _], _)) rfl (u_ rfl) ?_
          refine w_t (pc := 164) (e_s := (17, 3, 168, 0, 0, .null, [])) (y_s := (168, [some (.ref _), some (.int _), some (.int _), some (.int _)], [.int _], _)) rfl (u_ rfl) ?_
          exact wrI (pc := 168) (len_s := 1) rfl hk t_s
        · replace t_s := t_s.2 c21
          refine w_t (pc := 167) (e_s := (1, 1, 3, 0, 0, .null, [])) (y_s := (168, [some (.ref _), some (.int _), some (.int _), some (.int _)], [.int _], _)) rfl (u_ rfl) ?_
          exact wrI (pc := 168) (len_s := 1) rfl hk t_s
  · replace t_s := t_s.2 c2_s
    refine w_t (pc := 15) (e_s := (3, 1, 0, 0, 0, .null, [])) (y_s := (16, [some (.ref _), some (.int _), none, none], [.ref _], _)) rfl (u_ rfl) ?_
    refine w20r (pc := 16) (len_s := 3) (q_s := 112) rfl (krq hk rfl) ?_
    refine w_t (pc := 19) (e_s := (0, 1, 0, 0, 0, .int 1, [])) (y_s := (20, [some (.ref _), some (.int _), none, none], [.int _, .ref _], _)) rfl (u_ rfl) ?_
    refine w22 (pc := 20) (len_s := 1) rfl (hk.1 112 0 7 rfl rfl) (fun c22 => ?_)
    refine w_t (pc := 21) (e_s := (3, 1, 0, 0, 0, .null, [])) (y_s := (22, [some (.ref _), some (.int _), none, none], [.ref _, .int _], _)) rfl (u_ rfl) ?_
    refine w20r (pc := 22) (len_s := 3) (q_s := 112) rfl (krq hk rfl) ?_
    refine w_t (pc := 25) (e_s := (0, 2, 0, 0, 0, .int 6, [])) (y_s := (27, [some (.ref _), some (.int _), none, none], [.int _, .ref _, .int _], _)) rfl (u_ rfl) ?_
    refine w22 (pc := 27) (len_s := 1) rfl (hk.1 112 0 7 rfl rfl) (fun c23_s => ?_)
    refine w_t (pc := 28) (e_s := (7, 1, 0, 1, 0, .null, [])) (y_s := (29, [some (.ref _), some (.int _), none, none], [.int (_ - _)], _)) rfl (u_ rfl) ?_
    refine wcI (pc := 29) (len_s := 3) rfl rfl (l := [some (.int _)]) rfl ?_
    refine w_t (pc := 0) (e_s := (1, 1, 0, 0, 0, .null, [])) (y_s := (1, [some (.int _)], [.int _], _)) rfl (u_ rfl) ?_
    refine wq3 (pc := 1) (len_s := 3) rfl rfl (fun c24_s => ?_) (fun c24_s => ?_)
    · replace t_s := t_s.1 c24_s
      refine w_t (pc := 4) (e_s := (1, 1, 0, 0, 0, .null, [])) (y_s := (5, [some (.int _)], [.int _], _)) rfl (u_ rfl) ?_
      refine w_t (pc := 5) (e_s := (9, 1, 0, 0, 0, .null, [])) (y_s := (6, [some (.int _)], [.int (-_)], _)) rfl (u_ rfl) ?_
      refine w_t (pc := 6) (e_s := (17, 3, 10, 0, 0, .null, [])) (y_s := (10, [some (.int _)], [.int _], _)) rfl (u_ rfl) ?_
      refine wrI (pc := 10) (len_s := 1) rfl hk ?_
      show wF _ 180 (32, [some (.ref _), some (.int _), none, none], [.int _], _) _
      refine w_t (pc := 32) (e_s := (4, 1, 2, 0, 0, .null, [])) (y_s := (33, [some (.ref _), some (.int _), some (.int _), none], [], _)) rfl (u_ rfl) ?_
      refine w_t (pc := 33) (e_s := (0, 1, 0, 0, 0, .int 1, [])) (y_s := (34, [some (.ref _), some (.int _), some (.int _), none], [.int _], _)) rfl (u_ rfl) ?_
      refine w_t (pc := 34) (e_s := (3, 1, 0, 0, 0, .null, [])) (y_s := (35, [some (.ref _), some (.int _), some (.int _), none], [.ref _, .int _], _)) rfl (u_ rfl) ?_
      refine w20r (pc := 35) (len_s := 3) (q_s := 103) rfl (krq hk rfl) ?_
      refine w_t (pc := 38) (e_s := (0, 2, 0, 0, 0, .int 92, [])) (y_s := (40, [some (.ref _), some (.int _), some (.int _), none], [.int _, .ref _, .int _], _)) rfl (u_ rfl) ?_
      refine w_t (pc := 40) (e_s := (1, 1, 1, 0, 0, .null, [])) (y_s := (41, [some (.ref _), some (.int _), some (.int _), none], [.int _, .int _, .ref _, .int _], _)) rfl (u_ rfl) ?_
      refine w_t (pc := 41) (e_s := (7, 1, 0, 0, 0, .null, [])) (y_s := (42, [some (.ref _), some (.int _), some (.int _), none], [.int (_ + _), .ref _, .int _], _)) rfl (u_ rfl) ?_
      refine w22 (pc := 42) (len_s := 1) rfl (hk.1 103 0 104 rfl rfl) (fun c25_s => ?_)
      replace t_s := t_s c25_s
      refine w_t (pc := 43) (e_s := (7, 1, 0, 0, 0, .null, [])) (y_s := (44, [some (.ref _), some (.int _), some (.int _), none], [.int (_ + _)], _)) rfl (u_ rfl) ?_
      refine w_t (pc := 44) (e_s := (1, 1, 2, 0, 0, .null, [])) (y_s := (45, [some (.ref _), some (.int _), some (.int _), none], [.int _, .int _], _)) rfl (u_ rfl) ?_
      refine w_t (pc := 45) (e_s := (0, 1, 0, 0, 0, .int 3, [])) (y_s := (46, [some (.ref _), some (.int _), some (.int _), none], [.int _, .int _, .int _], _)) rfl (u_ rfl) ?_
      refine w8 (pc := 46) (len_s := 1) rfl ?_
      refine w_t (pc := 47) (e_s := (7, 1, 0, 0, 0, .null, [])) (y_s := (48, [some (.ref _), some (.int _), some (.int _), none], [.int (_ + _)], _)) rfl (u_ rfl) ?_
      refine w_t (pc := 48) (e_s := (3, 1, 0, 0, 0, .null, [])) (y_s := (49, [some (.ref _), some (.int _), some (.int _), none], [.ref _, .int _], _)) rfl (u_ rfl) ?_
      refine w20r (pc := 49) (len_s := 3) (q_s := 112) rfl (krq hk rfl) ?_
      refine w_t (pc := 52) (e_s := (0, 1, 0, 0, 0, .int 0, [])) (y_s := (53, [some (.ref _), some (.int _), some (.int _), none], [.int _, .ref _, .int _], _)) rfl (u_ rfl) ?_
      refine w22 (pc := 53) (len_s := 1) rfl (hk.1 112 0 7 rfl rfl) (fun c26 => ?_)
      refine w_t (pc := 54) (e_s := (0, 1, 0, 0, 0, .int 2, [])) (y_s := (55, [some (.ref _), some (.int _), some (.int _), none], [.int _, .int _, .int _], _)) rfl (u_ rfl) ?_
      refine w8 (pc := 55) (len_s := 1) rfl ?_
      refine w_t (pc := 56) (e_s := (7, 1, 0, 1, 0, .null, [])) (y_s := (57, [some (.ref _), some (.int _), some (.int _), none], [.int (_ - _)], _)) rfl (u_ rfl) ?_
      refine w_t (pc := 57) (e_s := (4, 1, 3, 0, 0, .null, [])) (y_s := (58, [some (.ref _), some (.int _), some (.int _), some (.int _)], [], _)) rfl (u_ rfl) ?_
      refine w_t (pc := 58) (e_s := (3, 1, 0, 0, 0, .null, [])) (y_s := (59, [some (.ref _), some (.int _), some (.int _), some (.int _)], [.ref _], _)) rfl (u_ rfl) ?_
      refine w20 (pc := 59) (len_s := 3) rfl ?_
      refine wq2 (pc := 62) (len_s := 3) rfl rfl (fun c27_s => ?_) (fun c27_s => ?_)
      · replace t_s := t_s.1 c27_s
        refine w_t (pc := 148) (e_s := (1, 1, 3, 0, 0, .null, [])) (y_s := (149, [some (.ref _), some (.int _), some (.int _), some (.int _)], [.int _], _)) rfl (u_ rfl) ?_
        refine wq3 (pc := 149) (len_s := 3) rfl rfl (fun c28_s => ?_) (fun c28_s => ?_)
        · replace t_s := t_s.1 c28_s
          refine w_t (pc := 152) (e_s := (0, 1, 0, 0, 0, .int 0, [])) (y_s := (153, [some (.ref _), some (.int _), some (.int _), some (.int _)], [.int _], _)) rfl (u_ rfl) ?_
          refine w_t (pc := 153) (e_s := (17, 3, 168, 0, 0, .null, [])) (y_s := (168, [some (.ref _), some (.int _), some (.int _), some (.int _)], [.int _], _)) rfl (u_ rfl) ?_
          exact wrI (pc := 168) (len_s := 1) rfl hk t_s
        · replace t_s := t_s.2 c28_s
          refine w_t (pc := 156) (e_s := (1, 1, 3, 0, 0, .null, [])) (y_s := (157, [some (.ref _), some (.int _), some (.int _), some (.int _)], [.int _], _)) rfl (u_ rfl) ?_
          refine w_t (pc := 157) (e_s := (0, 2, 0, 0, 0, .int 9, [])) (y_s := (159, [some (.ref _), some (.int _), some (.int _), some (.int _)], [.int _, .int _], _)) rfl (u_ rfl) ?_
          refine wi5 (pc := 159) (len_s := 3) (Y := 9) rfl rfl (by decide) (fun c29_s => ?_) (fun c29_s => ?_)
          · replace t_s := t_s.1 c29_s
            refine w_t (pc := 162) (e_s := (0, 2, 0, 0, 0, .int 9, [])) (y_s := (164, [some (.ref _), some (.int _), some (.int _), some (.int _)], [.int _], _)) rfl (u_ rfl) ?_
            refine w_t (pc := 164) (e_s := (17, 3, 168, 0, 0, .null, [])) (y_s := (168, [some (.ref _), some (.int _), some (.int _), some (.int _)], [.int _], _)) rfl (u_ rfl) ?_
            exact wrI (pc := 168) (len_s := 1) rfl hk t_s
          · replace t_s := t_s.2 c29_s
            refine w_t (pc := 167) (e_s := (1, 1, 3, 0, 0, .null, [])) (y_s := (168, [some (.ref _), some (.int _), some (.int _), some (.int _)], [.int _], _)) rfl (u_ rfl) ?_
            exact wrI (pc := 168) (len_s := 1) rfl hk t_s
      · replace t_s := t_s.2 c27_s
        refine w_t (pc := 65) (e_s := (3, 1, 0, 0, 0, .null, [])) (y_s := (66, [some (.ref _), some (.int _), some (.int _), some (.int _)], [.ref _], _)) rfl (u_ rfl) ?_
        refine w20r (pc := 66) (len_s := 3) (q_s := 111) rfl (krq hk rfl) ?_
        refine w_t (pc := 69) (e_s := (0, 1, 0, 0, 0, .int 0, [])) (y_s := (70, [some (.ref _), some (.int _), some (.int _), some (.int _)], [.int _, .ref _], _)) rfl (u_ rfl) ?_
        refine w_t (pc := 70) (e_s := (3, 1, 0, 0, 0, .null, [])) (y_s := (71, [some (.ref _), some (.int _), some (.int _), some (.int _)], [.ref _, .int _, .ref _], _)) rfl (u_ rfl) ?_
        refine w20r (pc := 71) (len_s := 3) (q_s := 112) rfl (krq hk rfl) ?_
        refine w_t (pc := 74) (e_s := (0, 1, 0, 0, 0, .int 0, [])) (y_s := (75, [some (.ref _), some (.int _), some (.int _), some (.int _)], [.int _, .ref _, .int _, .ref _], _)) rfl (u_ rfl) ?_
        refine w22 (pc := 75) (len_s := 1) rfl (hk.1 112 0 7 rfl rfl) (fun c30_s => ?_)
        refine w25 (pc := 76) (len_s := 1) rfl (hk.1 111 0 6 rfl rfl) (fun c31_s => ?_)
        refine w_t (pc := 77) (e_s := (3, 1, 0, 0, 0, .null, [])) (y_s := (78, [some (.ref _), some (.int _), some (.int _), some (.int _)], [.ref _], _)) rfl (u_ rfl) ?_
        refine w20r (pc := 78) (len_s := 3) (q_s := 111) rfl (krq hk rfl) ?_
        refine w_t (pc := 81) (e_s := (0, 1, 0, 0, 0, .int 1, [])) (y_s := (82, [some (.ref _), some (.int _), some (.int _), some (.int _)], [.int _, .ref _], _)) rfl (u_ rfl) ?_
        refine w_t (pc := 82) (e_s := (3, 1, 0, 0, 0, .null, [])) (y_s := (83, [some (.ref _), some (.int _), some (.int _), some (.int _)], [.ref _, .int _, .ref _], _)) rfl (u_ rfl) ?_
        refine w20r (pc := 83) (len_s := 3) (q_s := 112) rfl (krq hk rfl) ?_
        refine w_t (pc := 86) (e_s := (0, 1, 0, 0, 0, .int 2, [])) (y_s := (87, [some (.ref _), some (.int _), some (.int _), some (.int _)], [.int _, .ref _, .int _, .ref _], _)) rfl (u_ rfl) ?_
        refine w22 (pc := 87) (len_s := 1) rfl (hk.1 112 0 7 rfl rfl) (fun c32_s => ?_)
        refine w25 (pc := 88) (len_s := 1) rfl (hk.1 111 0 6 rfl rfl) (fun c33_s => ?_)
        refine w_t (pc := 89) (e_s := (3, 1, 0, 0, 0, .null, [])) (y_s := (90, [some (.ref _), some (.int _), some (.int _), some (.int _)], [.ref _], _)) rfl (u_ rfl) ?_
        refine w20r (pc := 90) (len_s := 3) (q_s := 111) rfl (krq hk rfl) ?_
        refine w_t (pc := 93) (e_s := (0, 1, 0, 0, 0, .int 2, [])) (y_s := (94, [some (.ref _), some (.int _), some (.int _), some (.int _)], [.int _, .ref _], _)) rfl (u_ rfl) ?_
        refine w_t (pc := 94) (e_s := (3, 1, 0, 0, 0, .null, [])) (y_s := (95, [some (.ref _), some (.int _), some (.int _), some (.int _)], [.ref _, .int _, .ref _], _)) rfl (u_ rfl) ?_
        refine w20r (pc := 95) (len_s := 3) (q_s := 112) rfl (krq hk rfl) ?_
        refine w_t (pc := 98) (e_s := (0, 1, 0, 0, 0, .int 3, [])) (y_s := (99, [some (.ref _), some (.int _), some (.int _), some (.int _)], [.int _, .ref _, .int _, .ref _], _)) rfl (u_ rfl) ?_
        refine w22 (pc := 99) (len_s := 1) rfl (hk.1 112 0 7 rfl rfl) (fun c34_s => ?_)
        refine w25 (pc := 100) (len_s := 1) rfl (hk.1 111 0 6 rfl rfl) (fun c35_s => ?_)
        refine w_t (pc := 101) (e_s := (3, 1, 0, 0, 0, .null, [])) (y_s := (102, [some (.ref _), some (.int _), some (.int _), some (.int _)], [.ref _], _)) rfl (u_ rfl) ?_
        refine w20r (pc := 102) (len_s := 3) (q_s := 111) rfl (krq hk rfl) ?_
        refine w_t (pc := 105) (e_s := (0, 1, 0, 0, 0, .int 3, [])) (y_s := (106, [some (.ref _), some (.int _), some (.int _), some (.int _)], [.int _, .ref _], _)) rfl (u_ rfl) ?_
        refine w_t (pc := 106) (e_s := (1, 1, 2, 0, 0, .null, [])) (y_s := (107, [some (.ref _), some (.int _), some (.int _), some (.int _)], [.int _, .int _, .ref _], _)) rfl (u_ rfl) ?_
        refine w25 (pc := 107) (len_s := 1) rfl (hk.1 111 0 6 rfl rfl) (fun c36_s => ?_)
        refine w_t (pc := 108) (e_s := (3, 1, 0, 0, 0, .null, [])) (y_s := (109, [some (.ref _), some (.int _), some (.int _), some (.int _)], [.ref _], _)) rfl (u_ rfl) ?_
        refine w20r (pc := 109) (len_s := 3) (q_s := 111) rfl (krq hk rfl) ?_
        refine w_t (pc := 112) (e_s := (0, 1, 0, 0, 0, .int 4, [])) (y_s := (113, [some (.ref _), some (.int _), some (.int _), some (.int _)], [.int _, .ref _], _)) rfl (u_ rfl) ?_
        refine w_t (pc := 113) (e_s := (3, 1, 0, 0, 0, .null, [])) (y_s := (114, [some (.ref _), some (.int _), some (.int _), some (.int _)], [.ref _, .int _, .ref _], _)) rfl (u_ rfl) ?_
        refine w20r (pc := 114) (len_s := 3) (q_s := 103) rfl (krq hk rfl) ?_
        refine w_t (pc := 117) (e_s := (0, 2, 0, 0, 0, .int 80, [])) (y_s := (119, [some (.ref _), some (.int _), some (.int _), some (.int _)], [.int _, .ref _, .int _, .ref _], _)) rfl (u_ rfl) ?_
        refine w_t (pc := 119) (e_s := (1, 1, 1, 0, 0, .null, [])) (y_s := (120, [some (.ref _), some (.int _), some (.int _), some (.int _)], [.int _, .int _, .ref _, .int _, .ref _], _)) rfl (u_ rfl) ?_
        refine w_t (pc := 120) (e_s := (7, 1, 0, 0, 0, .null, [])) (y_s := (121, [some (.ref _), some (.int _), some (.int _), some (.int _)], [.int (_ + _), .ref _, .int _, .ref _], _)) rfl (u_ rfl) ?_
        refine w22 (pc := 121) (len_s := 1) rfl (hk.1 103 0 104 rfl rfl) (fun c37 => ?_)
        replace t_s := t_s c37
        refine w25 (pc := 122) (len_s := 1) rfl (hk.1 111 0 6 rfl rfl) (fun c38 => ?_)
        refine w_t (pc := 123) (e_s := (3, 1, 0, 0, 0, .null, [])) (y_s := (124, [some (.ref _), some (.int _), some (.int _), some (.int _)], [.ref _], _)) rfl (u_ rfl) ?_
        refine w20r (pc := 124) (len_s := 3) (q_s := 111) rfl (krq hk rfl) ?_
        refine w_t (pc := 127) (e_s := (0, 1, 0, 0, 0, .int 5, [])) (y_s := (128, [some (.ref _), some (.int _), some (.int _), some (.int _)], [.int _, .ref _], _)) rfl (u_ rfl) ?_
        refine w_t (pc := 128) (e_s := (3, 1, 0, 0, 0, .null, [])) (y_s := (129, [some (.ref _), some (.int _), some (.int _), some (.int _)], [.ref _, .int _, .ref _], _)) rfl (u_ rfl) ?_
        refine w20r (pc := 129) (len_s := 3) (q_s := 103) rfl (krq hk rfl) ?_
        refine w_t (pc := 132) (e_s := (0, 2, 0, 0, 0, .int 92, [])) (y_s := (134, [some (.ref _), some (.int _), some (.int _), some (.int _)], [.int _, .ref _, .int _, .ref _], _)) rfl (u_ rfl) ?_
        refine w_t (pc := 134) (e_s := (1, 1, 1, 0, 0, .null, [])) (y_s := (135, [some (.ref _), some (.int _), some (.int _), some (.int _)], [.int _, .int _, .ref _, .int _, .ref _], _)) rfl (u_ rfl) ?_
        refine w_t (pc := 135) (e_s := (7, 1, 0, 0, 0, .null, [])) (y_s := (136, [some (.ref _), some (.int _), some (.int _), some (.int _)], [.int (_ + _), .ref _, .int _, .ref _], _)) rfl (u_ rfl) ?_
        refine w22 (pc := 136) (len_s := 1) rfl (hk.1 103 0 104 rfl rfl) (fun c39_s => ?_)
        refine w25 (pc := 137) (len_s := 1) rfl (hk.1 111 0 6 rfl rfl) (fun c40_s => ?_)
        refine w_t (pc := 138) (e_s := (3, 1, 0, 0, 0, .null, [])) (y_s := (139, [some (.ref _), some (.int _), some (.int _), some (.int _)], [.ref _], _)) rfl (u_ rfl) ?_
        refine w_t (pc := 139) (e_s := (0, 1, 0, 0, 0, .int 0, [])) (y_s := (140, [some (.ref _), some (.int _), some (.int _), some (.int _)], [.int _, .ref _], _)) rfl (u_ rfl) ?_
        refine w_t (pc := 140) (e_s := (3, 1, 0, 0, 0, .null, [])) (y_s := (141, [some (.ref _), some (.int _), some (.int _), some (.int _)], [.ref _, .int _, .ref _], _)) rfl (u_ rfl) ?_
        refine w20 (pc := 141) (len_s := 3) rfl ?_
        refine wcI (pc := 144) (len_s := 3) rfl rfl (l := [some (.ref _), some (.int _), some (.int _), none, none, none, none, none]) rfl (wmI t_s (fun v41 h41 hk t_s => ?_))
        replace t_s := t_s hk
        refine w_t (pc := 147) (e_s := (4, 1, 3, 0, 0, .null, [])) (y_s := (148, [some (.ref _), some (.int _), some (.int _), some (.int _)], [], _)) rfl (u_ rfl) ?_
        refine w_t (pc := 148) (e_s := (1, 1, 3, 0, 0, .null, [])) (y_s := (149, [some (.ref _), some (.int _), some (.int _), some (.int _)], [.int _], _)) rfl (u_ rfl) ?_
        refine wq3 (pc := 149) (len_s := 3) rfl rfl (fun c42 => ?_) (fun c42 => ?_)
        · replace t_s := t_s.1 c42
          refine w_t (pc := 152) (e_s := (0, 1, 0, 0, 0, .int 0, [])) (y_s := (153, [some (.ref _), some (.int _), some (.int _), some (.int _)], [.int _], _)) rfl (u_ rfl) ?_
          refine w_t (pc := 153) (e_s := (17, 3, 168, 0, 0, .null, [])) (y_s := (168, [some (.ref _), some (.int _), some (.int _), some (.int _)], [.int _], _)) rfl (u_ rfl) ?_
          exact wrI (pc := 168) (len_s := 1) rfl hk t_s
        · replace t_s := t_s.2 c42
          refine w_t (pc := 156) (e_s := (1, 1, 3, 0, 0, .null, [])) (y_s := (157, [some (.ref _), some (.int _), some (.int _), some (.int _)], [.int _], _)) rfl (u_ rfl) ?_
          refine w_t (pc := 157) (e_s := (0, 2, 0, 0, 0, .int 9, [])) (y_s := (159, [some (.ref _), some (.int _), some (.int _), some (.int _)], [.int _, .int _], _)) rfl (u_ rfl) ?_
          refine wi5 (pc := 159) (len_s := 3) (Y := 9) rfl rfl (by decide) (fun c43_s => ?_) (fun c43_s => ?_)
          · replace t_s := t_s.1 c43_s
            refine w_t (pc := 162) (e_s := (0, 2, 0, 0, 0, .int 9, [])) (y_s := (164, [some (.ref _), some (.int _), some (.int _), some (.int _)], [.int _], _)) rfl (u_ rfl) ?_
            refine w_t (pc := 164) (e_s := (17, 3, 168, 0, 0, .null, [])) (y_s := (168, [some (.ref _), some (.int _), some (.int _), some (.int _)], [.int _], _)) rfl (u_ rfl) ?_
            exact wrI (pc := 168) (len_s := 1) rfl hk t_s
          · replace t_s := t_s.2 c43_s
            refine w_t (pc := 167) (e_s := (1, 1, 3, 0, 0, .null, [])) (y_s := (168, [some (.ref _), some (.int _), some (.int _), some (.int _)], [.int _], _)) rfl (u_ rfl) ?_
            exact wrI (pc := 168) (len_s := 1) rfl hk t_s
    · replace t_s := t_s.2 c24_s
      refine w_t (pc := 9) (e_s := (1, 1, 0, 0, 0, .null, [])) (y_s := (10, [some (.int _)], [.int _], _)) rfl (u_ rfl) ?_
      refine wrI (pc := 10) (len_s := 1) rfl hk ?_
      show wF _ 180 (32, [some (.ref _), some (.int _), none, none], [.int _], _) _
      refine w_t (pc := 32) (e_s := (4, 1, 2, 0, 0, .null, [])) (y_s := (33, [some (.ref _), some (.int _), some (.int _), none], [], _)) rfl (u_ rfl) ?_
      refine w_t (pc := 33) (e_s := (0, 1, 0, 0, 0, .int 1, [])) (y_s := (34, [some (.ref _), some (.int _), some (.int _), none], [.int _], _)) rfl (u_ rfl) ?_
      refine w_t (pc := 34) (e_s := (3, 1, 0, 0, 0, .null, [])) (y_s := (35, [some (.ref _), some (.int _), some (.int _), none], [.ref _, .int _], _)) rfl (u_ rfl) ?_
      refine w20r (pc := 35) (len_s := 3) (q_s := 103) rfl (krq hk rfl) ?_
      refine w_t (pc := 38) (e_s := (0, 2, 0, 0, 0, .int 92, [])) (y_s := (40, [some (.ref _), some (.int _), some (.int _), none], [.int _, .ref _, .int _], _)) rfl (u_ rfl) ?_
      refine w_t (pc := 40) (e_s := (1, 1, 1, 0, 0, .null, [])) (y_s := (41, [some (.ref _), some (.int _), some (.int _), none], [.int _, .int _, .ref _, .int _], _)) rfl (u_ rfl) ?_
      refine w_t (pc := 41) (e_s := (7, 1, 0, 0, 0, .null, [])) (y_s := (42, [some (.ref _), some (.int _), some (.int _), none], [.int (_ + _), .ref _, .int _], _)) rfl (u_ rfl) ?_
      refine w22 (pc := 42) (len_s := 1) rfl (hk.1 103 0 104 rfl rfl) (fun c44_s => ?_)
      replace t_s := t_s c44_s
      refine w_t (pc := 43) (e_s := (7, 1, 0, 0, 0, .null, [])) (y_s := (44, [some (.ref _), some (.int _), some (.int _), none], [.int (_ + _)], _)) rfl (u_ rfl) ?_
      refine w_t (pc := 44) (e_s := (1, 1, 2, 0, 0, .null, [])) (y_s := (45, [some (.ref _), some (.int _), some (.int _), none], [.int _, .int _], _)) rfl (u_ rfl) ?_
      refine w_t (pc := 45) (e_s := (0, 1, 0, 0, 0, .int 3, [])) (y_s := (46, [some (.ref _), some (.int _), some (.int _), none], [.int _, .int _, .int _], _)) rfl (u_ rfl) ?_
      refine w8 (pc := 46) (len_s := 1) rfl ?_
      refine w_t (pc := 47) (e_s := (7, 1, 0, 0, 0, .null, [])) (y_s := (48, [some (.ref _), some (.int _), some (.int _), none], [.int (_ + _)], _)) rfl (u_ rfl) ?_
      refine w_t (pc := 48) (e_s := (3, 1, 0, 0, 0, .null, [])) (y_s := (49, [some (.ref _), some (.int _), some (.int _), none], [.ref _, .int _], _)) rfl (u_ rfl) ?_
      refine w20r (pc := 49) (len_s := 3) (q_s := 112) rfl (krq hk rfl) ?_
      refine w_t (pc := 52) (e_s := (0, 1, 0, 0, 0, .int 0, [])) (y_s := (53, [some (.ref _), some (.int _), some (.int _), none], [.int _, .ref _, .int _], _)) rfl (u_ rfl) ?_
      refine w22 (pc := 53) (len_s := 1) rfl (hk.1 112 0 7 rfl rfl) (fun c45 => ?_)
      refine w_t (pc := 54) (e_s := (0, 1, 0, 0, 0, .int 2, [])) (y_s := (55, [some (.ref _), some (.int _), some (.int _), none], [.int _, .int _, .int _], _)) rfl (u_ rfl) ?_
      refine w8 (pc := 55) (len_s := 1) rfl ?_
      refine w_t (pc := 56) (e_s := (7, 1, 0, 1, 0, .null, [])) (y_s := (57, [some (.ref _), some (.int _), some (.int _), none], [.int (_ - _)], _)) rfl (u_ rfl) ?_
      refine w_t (pc := 57) (e_s := (4, 1, 3, 0, 0, .null, [])) (y_s := (58, [some (.ref _), some (.int _), some (.int _), some (.int _)], [], _)) rfl (u_ rfl) ?_
      refine w_t (pc := 58) (e_s := (3, 1, 0, 0, 0, .null, [])) (y_s := (59, [some (.ref _), some (.int _), some (.int _), some (.int _)], [.ref _], _)) rfl (u_ rfl) ?_
      refine w20 (pc := 59) (len_s := 3) rfl ?_
      refine wq2 (pc := 62) (len_s := 3) rfl rfl (fun c46_s => ?_) (fun c46_s => ?_)
      · replace t_s := t_s.1 c46_s
        refine w_t (pc := 148) (e_s := (1, 1, 3, 0, 0, .null, [])) (y_s := (149, [some (.ref _), some (.int _), some (.int _), some (.int _)], [.int _], _)) rfl (u_ rfl) ?_
        refine wq3 (pc := 149) (len_s := 3) rfl rfl (fun c47_s => ?_) (fun c47_s => ?_)
        · replace t_s := t_s.1 c47_s
          refine w_t (pc := 152) (e_s := (0, 1, 0, 0, 0, .int 0, [])) (y_s := (153, [some (.ref _), some (.int _), some (.int _), some (.int _)], [.int _], _)) rfl (u_ rfl) ?_
          refine w_t (pc := 153) (e_s := (17, 3, 168, 0, 0, .null, [])) (y_s := (168, [some (.ref _), some (.int _), some (.int _), some (.int _)], [.int _], _)) rfl (u_ rfl) ?_
          exact wrI (pc := 168) (len_s := 1) rfl hk t_s
        · replace t_s := t_s.2 c47_s
          refine w_t (pc := 156) (e_s := (1, 1, 3, 0, 0, .null, [])) (y_s := (157, [some (.ref _), some (.int _), some (.int _), some (.int _)], [.int _], _)) rfl (u_ rfl) ?_
          refine w_t (pc := 157) (e_s := (0, 2, 0, 0, 0, .int 9, [])) (y_s := (159, [some (.ref _), some (.int _), some (.int _), some (.int _)], [.int _, .int _], _)) rfl (u_ rfl) ?_
          refine wi5 (pc := 159) (len_s := 3) (Y := 9) rfl rfl (by decide) (fun c48_s => ?_) (fun c48_s => ?_)
          · replace t_s := t_s.1 c48_s
            refine w_t (pc := 162) (e_s := (0, 2, 0, 0, 0, .int 9, [])) (y_s := (164, [some (.ref _), some (.int _), some (.int _), some (.int _)], [.int _], _)) rfl (u_ rfl) ?_
            refine w_t (pc := 164) (e_s := (17, 3, 168, 0, 0, .null, [])) (y_s := (168, [some (.ref _), some (.int _), some (.int _), some (.int _)], [.int _], _)) rfl (u_ rfl) ?_
            exact wrI (pc := 168) (len_s := 1) rfl hk t_s
          · replace t_s := t_s.2 c48_s
            refine w_t (pc := 167) (e_s := (1, 1, 3, 0, 0, .null, [])) (y_s := (168, [some (.ref _), some (.int _), some (.int _), some (.int _)], [.int _], _)) rfl (u_ rfl) ?_
            exact wrI (pc := 168) (len_s := 1) rfl hk t_s
      · replace t_s := t_s.2 c46_s
        refine w_t (pc := 65) (e_s := (3, 1, 0, 0, 0, .null, [])) (y_s := (66, [some (.ref _), some (.int _), some (.int _), some (.int _)], [.ref _], _)) rfl (u_ rfl) ?_
        refine w20r (pc := 66) (len_s := 3) (q_s := 111) rfl (krq hk rfl) ?_
        refine w_t (pc := 69) (e_s := (0, 1, 0, 0, 0, .int 0, [])) (y_s := (70, [some (.ref _), some (.int _), some (.int _), some (.int _)], [.int _, .ref _], _)) rfl (u_ rfl) ?_
        refine w_t (pc := 70) (e_s := (3, 1, 0, 0, 0, .null, [])) (y_s := (71, [some (.ref _), some (.int _), some (.int _), some (.int _)], [.ref _, .int _, .ref _], _)) rfl (u_ rfl) ?_
        refine w20r (pc := 71) (len_s := 3) (q_s := 112) rfl (krq hk rfl) ?_
        refine w_t (pc := 74) (e_s := (0, 1, 0, 0, 0, .int 0, [])) (y_s := (75, [some (.ref _), some (.int _), some (.int _), some (.int _)], [.int _, .ref _, .int _, .ref _], _)) rfl (u_ rfl) ?_
        refine w22 (pc := 75) (len_s := 1) rfl (hk.1 112 0 7 rfl rfl) (fun c49 => ?_)
        refine w25 (pc := 76) (len_s := 1) rfl (hk.1 111 0 6 rfl rfl) (fun c50 => ?_)
        refine w_t (pc := 77) (e_s := (3, 1, 0, 0, 0, .null, [])) (y_s := (78, [some (.ref _), some (.int _), some (.int _), some (.int _)], [.ref _], _)) rfl (u_ rfl) ?_
        refine w20r (pc := 78) (len_s := 3) (q_s := 111) rfl (krq hk rfl) ?_
        refine w_t (pc := 81) (e_s := (0, 1, 0, 0, 0, .int 1, [])) (y_s := (82, [some (.ref _), some (.int _), some (.int _), some (.int _)], [.int _, .ref _], _)) rfl (u_ rfl) ?_
        refine w_t (pc := 82) (e_s := (3, 1, 0, 0, 0, .null, [])) (y_s := (83, [some (.ref _), some (.int _), some (.int _), some (.int _)], [.ref _, .int _, .ref _], _)) rfl (u_ rfl) ?_
        refine w20r (pc := 83) (len_s := 3) (q_s := 112) rfl (krq hk rfl) ?_
        refine w_t (pc := 86) (e_s := (0, 1, 0, 0, 0, .int 2, [])) (y_s := (87, [some (.ref _), some (.int _), some (.int _), some (.int _)], [.int _, .ref _, .int _, .ref _], _)) rfl (u_ rfl) ?_
        refine w22 (pc := 87) (len_s := 1) rfl (hk.1 112 0 7 rfl rfl) (fun c51_s => ?_)
        refine w25 (pc := 88) (len_s := 1) rfl (hk.1 111 0 6 rfl rfl) (fun c52_s => ?_)
        refine w_t (pc := 89) (e_s := (3, 1, 0, 0, 0, .null, [])) (y_s := (90, [some (.ref _), some (.int _), some (.int _), some (.int _)], [.ref _], _)) rfl (u_ rfl) ?_
        refine w20r (pc := 90) (len_s := 3) (q_s := 111) rfl (krq hk rfl) ?_
        refine w_t (pc := 93) (e_s := (0, 1, 0, 0, 0, .int 2, [])) (y_s := (94, [some (.ref _), some (.int _), some (.int _), some (.int _)], [.int _, .ref _], _)) rfl (u_ rfl) ?_
        refine w_t (pc := 94) (e_s := (3, 1, 0, 0, 0, .null, [])) (y_s := (95, [some (.ref _), some (.int _), some (.int _), some (.int _)], [.ref _, .int _, .ref _], _)) rfl (u_ rfl) ?_
        refine w20r (pc := 95) (len_s := 3) (q_s := 112) rfl (krq hk rfl) ?_
        refine w_t (pc := 98) (e_s := (0, 1, 0, 0, 0, .int 3, [])) (y_s := (99, [some (.ref _), some (.int _), some (.int _), some (.int _)], [.int _, .ref _, .int _, .ref _], _)) rfl (u_ rfl) ?_
        refine w22 (pc := 99) (len_s := 1) rfl (hk.1 112 0 7 rfl rfl) (fun c53 => ?_)
        refine w25 (pc := 100) (len_s := 1) rfl (hk.1 111 0 6 rfl rfl) (fun c54 => ?_)
        refine w_t (pc := 101) (e_s := (3, 1, 0, 0, 0, .null, [])) (y_s := (102, [some (.ref _), some (.int _), some (.int _), some (.int _)], [.ref _], _)) rfl (u_ rfl) ?_
        refine w20r (pc := 102) (len_s := 3) (q_s := 111) rfl (krq hk rfl) ?_
        refine w_t (pc := 105) (e_s := (0, 1, 0, 0, 0, .int 3, [])) (y_s := (106, [some (.ref _), some (.int _), some (.int _), some (.int _)], [.int _, .ref _], _)) rfl (u_ rfl) ?_
        refine w_t (pc := 106) (e_s := (1, 1, 2, 0, 0, .null, [])) (y_s := (107, [some (.ref _), some (.int _), some (.int _), some (.int _)], [.int _, .int _, .ref _], _)) rfl (u_ rfl) ?_
        refine w25 (pc := 107) (len_s := 1) rfl (hk.1 111 0 6 rfl rfl) (fun c55 => ?_)
        refine w_t (pc := 108) (e_s := (3, 1, 0, 0, 0, .null, [])) (y_s := (109, [some (.ref _), some (.int _), some (.int _), some (.int _)], [.ref _], _)) rfl (u_ rfl) ?_
        refine w20r (pc := 109) (len_s := 3) (q_s := 111) rfl (krq hk rfl) ?_
        refine w_t (pc := 112) (e_s := (0, 1, 0, 0, 0, .int 4, [])) (y_s := (113, [some (.ref _), some (.int _), some (.int _), some (.int _)], [.int _, .ref _], _)) rfl (u_ rfl) ?_
        refine w_t (pc := 113) (e_s := (3, 1, 0, 0, 0, .null, [])) (y_s := (114, [some (.ref _), some (.int _), some (.int _), some (.int _)], [.ref _, .int _, .ref _], _)) rfl (u_ rfl) ?_
        refine w20r (pc := 114) (len_s := 3) (q_s := 103) rfl (krq hk rfl) ?_
        refine w_t (pc := 117) (e_s := (0, 2, 0, 0, 0, .int 80, [])) (y_s := (119, [some (.ref _), some (.int _), some (.int _), some (.int _)], [.int _, .ref _, .int _, .ref _], _)) rfl (u_ rfl) ?_
        refine w_t (pc := 119) (e_s := (1, 1, 1, 0, 0, .null, [])) (y_s := (120, [some (.ref _), some (.int _), some (.int _), some (.int _)], [.int _, .int _, .ref _, .int _, .ref _], _)) rfl (u_ rfl) ?_
        refine w_t (pc := 120) (e_s := (7, 1, 0, 0, 0, .null, [])) (y_s := (121, [some (.ref _), some (.int _), some (.int _), some (.int _)], [.int (_ + _), .ref _, .int _, .ref _], _)) rfl (u_ rfl) ?_
        refine w22 (pc := 121) (len_s := 1) rfl (hk.1 103 0 104 rfl rfl) (fun c56 => ?_)
        replace t_s := t_s c56
        refine w25 (pc := 122) (len_s := 1) rfl (hk.1 111 0 6 rfl rfl) (fun c57 => ?_)
        refine w_t (pc := 123) (e_s := (3, 1, 0, 0, 0, .null, [])) (y_s := (124, [some (.ref _), some (.int _), some (.int _), some (.int _)], [.ref _], _)) rfl (u_ rfl) ?_
        refine w20r (pc := 124) (len_s := 3) (q_s := 111) rfl (krq hk rfl) ?_
        refine w_t (pc := 127) (e_s := (0, 1, 0, 0, 0, .int 5, [])) (y_s := (128, [some (.ref _), some (.int _), some (.int _), some (.int _)], [.int _, .ref _], _)) rfl (u_ rfl) ?_
        refine w_t (pc := 128) (e_s := (3, 1, 0, 0, 0, .null, [])) (y_s := (129, [some (.ref _), some (.int _), some (.int _), some (.int _)], [.ref _, .int _, .ref _], _)) rfl (u_ rfl) ?_
        refine w20r (pc := 129) (len_s := 3) (q_s := 103) rfl (krq hk rfl) ?_
        refine w_t (pc := 132) (e_s := (0, 2, 0, 0, 0, .int 92, [])) (y_s := (134, [some (.ref _), some (.int _), some (.int _), some (.int _)], [.int _, .ref _, .int _, .ref _], _)) rfl (u_ rfl) ?_
        refine w_t (pc := 134) (e_s := (1, 1, 1, 0, 0, .null, [])) (y_s := (135, [some (.ref _), some (.int _), some (.int _), some (.int _)], [.int _, .int _, .ref _, .int _, .ref _], _)) rfl (u_ rfl) ?_
        refine w_t (pc := 135) (e_s := (7, 1, 0, 0, 0, .null, [])) (y_s := (136, [some (.ref _), some (.int _), some (.int _), some (.int _)], [.int (_ + _), .ref _, .int _, .ref _], _)) rfl (u_ rfl) ?_
        refine w22 (pc := 136) (len_s := 1) rfl (hk.1 103 0 104 rfl rfl) (fun c58 => ?_)
        refine w25 (pc := 137) (len_s := 1) rfl (hk.1 111 0 6 rfl rfl) (fun c59 => ?_)
        refine w_t (pc := 138) (e_s := (3, 1, 0, 0, 0, .null, [])) (y_s := (139, [some (.ref _), some (.int _), some (.int _), some (.int _)], [.ref _], _)) rfl (u_ rfl) ?_
        refine w_t (pc := 139) (e_s := (0, 1, 0, 0, 0, .int 0, [])) (y_s := (140, [some (.ref _), some (.int _), some (.int _), some (.int _)], [.int _, .ref _], _)) rfl (u_ rfl) ?_
        refine w_t (pc := 140) (e_s := (3, 1, 0, 0, 0, .null, [])) (y_s := (141, [some (.ref _), some (.int _), some (.int _), some (.int _)], [.ref _, .int _, .ref _], _)) rfl (u_ rfl) ?_
        refine w20 (pc := 141) (len_s := 3) rfl ?_
        refine wcI (pc := 144) (len_s := 3) rfl rfl (l := [some (.ref _), some (.int _), some (.int _), none, none, none, none, none]) rfl (wmI t_s (fun v60 h60 hk t_s => ?_))
        replace t_s := t_s hk
        refine w_t (pc := 147) (e_s := (4, 1, 3, 0, 0, .null, [])) (y_s := (148, [some (.ref _), some (.int _), some (.int _), some (.int _)], [], _)) rfl (u_ rfl) ?_
        refine w_t (pc := 148) (e_s := (1, 1, 3, 0, 0, .null, [])) (y_s := (149, [some (.ref _), some (.int _), some (.int _), some (.int _)], [.int _], _)) rfl (u_ rfl) ?_
        refine wq3 (pc := 149) (len_s := 3) rfl rfl (fun c61 => ?_) (fun c61 => ?_)
        · replace t_s := t_s.1 c61
          refine w_t (pc := 152) (e_s := (0, 1, 0, 0, 0, .int 0, [])) (y_s := (153, [some (.ref _), some (.int _), some (.int _), some (.int _)], [.int _], _)) rfl (u_ rfl) ?_
          refine w_t (pc := 153) (e_s := (17, 3, 168, 0, 0, .null, [])) (y_s := (168, [some (.ref _), some (.int _), some (.int _), some (.int _)], [.int _], _)) rfl (u_ rfl) ?_
          exact wrI (pc := 168) (len_s := 1) rfl hk t_s
        · replace t_s := t_s.2 c61
          refine w_t (pc := 156) (e_s := (1, 1, 3, 0, 0, .null, [])) (y_s := (157, [some (.ref _), some (.int _), some (.int _), some (.int _)], [.int _], _)) rfl (u_ rfl) ?_
          refine w_t (pc := 157) (e_s := (0, 2, 0, 0, 0, .int 9, [])) (y_s := (159, [some (.ref _), some (.int _), some (.int _), some (.int _)], [.int _, .int _], _)) rfl (u_ rfl) ?_
          refine wi5 (pc := 159) (len_s := 3) (Y := 9) rfl rfl (by decide) (fun c62 => ?_) (fun c62 => ?_)
          · replace t_s := t_s.1 c62
            refine w_t (pc := 162) (e_s := (0, 2, 0, 0, 0, .int 9, [])) (y_s := (164, [some (.ref _), some (.int _), some (.int _), some (.int _)], [.int _], _)) rfl (u_ rfl) ?_
            refine w_t (pc := 164) (e_s := (17, 3, 168, 0, 0, .null, [])) (y_s := (168, [some (.ref _), some (.int _), some (.int _), some (.int _)], [.int _], _)) rfl (u_ rfl) ?_
            exact wrI (pc := 168) (len_s := 1) rfl hk t_s
          · replace t_s := t_s.2 c62
            refine w_t (pc := 167) (e_s := (1, 1, 3, 0, 0, .null, [])) (y_s := (168, [some (.ref _), some (.int _), some (.int _), some (.int _)], [.int _], _)) rfl (u_ rfl) ?_
            exact wrI (pc := 168) (len_s := 1) rfl hk t_s
/-- ColdShodModel.goesRoad(I)V, from 0 on -/
theorem sg_183_0 {F_s : Nat} {x1_s : Int32} {h_s : zH} {K_s : zH → Prop} (hk : hKn h_s) (t_s : ((h_s.2.1 112 2).toInt < 99 → (zix (80 + x1_s) < 104 → ((9 - ((h_s.2.1 112 2) / 11)).toInt < (h_s.2.1 103 (zix (80 + x1_s))).toInt → K_s (h_s.1, zup (zup h_s.2.1 102 22 0) 102 23 0, h_s.2.2.1, h_s.2.2.2)) ∧ (¬ (9 - ((h_s.2.1 112 2) / 11)).toInt < (h_s.2.1 103 (zix (80 + x1_s))).toInt → wF F_s 183 (18, [some (.ref 102), some (.int x1_s), none], [], (h_s.1, zup (zup h_s.2.1 102 22 0) 102 23 0, h_s.2.2.1, h_s.2.2.2)) (gV K_s)))) ∧ (¬ (h_s.2.1 112 2).toInt < 99 → K_s (h_s.1, zup (zup h_s.2.1 102 22 0) 102 23 0, h_s.2.2.1, h_s.2.2.2))) : wF (F_s + 1) 183 (0, [some (.ref 102), some (.int x1_s), none], [], h_s) (gV K_s) := by
  refine w_0 (pc := 0) (e_s := (3, 1, 0, 0, 0, .null, [])) (y_s := (1, [some (.ref _), some (.int _), none], [.ref _], _)) rfl (u_ rfl) ?_
  refine w_t (pc := 1) (e_s := (0, 1, 0, 0, 0, .int 0, [])) (y_s := (2, [some (.ref _), some (.int _), none], [.int _, .ref _], _)) rfl (u_ rfl) ?_
  refine w21 (pc := 2) (len_s := 3) rfl ?_
  refine w_t (pc := 5) (e_s := (3, 1, 0, 0, 0, .null, [])) (y_s := (6, [some (.ref _), some (.int _), none], [.ref _], _)) rfl (u_ rfl) ?_
  refine w_t (pc := 6) (e_s := (0, 1, 0, 0, 0, .int 0, [])) (y_s := (7, [some (.ref _), some (.int _), none], [.int _, .ref _], _)) rfl (u_ rfl) ?_
  refine w21b (pc := 7) (len_s := 3) rfl ?_
  refine w_t (pc := 10) (e_s := (3, 1, 0, 0, 0, .null, [])) (y_s := (11, [some (.ref _), some (.int _), none], [.ref _], _)) rfl (u_ rfl) ?_
  refine w_t (pc := 11) (e_s := (1, 1, 1, 0, 0, .null, [])) (y_s := (12, [some (.ref _), some (.int _), none], [.int _, .ref _], _)) rfl (u_ rfl) ?_
  refine wcI (pc := 12) (len_s := 3) rfl rfl (l := [some (.ref _), some (.int _)]) rfl ?_
  refine w_t (pc := 0) (e_s := (3, 1, 0, 0, 0, .null, [])) (y_s := (1, [some (.ref _), some (.int _)], [.ref _], _)) rfl (u_ rfl) ?_
  refine w20r (pc := 1) (len_s := 3) (q_s := 112) rfl (krq hk rfl) ?_
  refine w_t (pc := 4) (e_s := (0, 1, 0, 0, 0, .int 2, [])) (y_s := (5, [some (.ref _), some (.int _)], [.int _, .ref _], _)) rfl (u_ rfl) ?_
  refine w22 (pc := 5) (len_s := 1) rfl (hk.1 112 0 7 rfl rfl) (fun c1_s => ?_)
  refine w_t (pc := 6) (e_s := (0, 2, 0, 0, 0, .int 99, [])) (y_s := (8, [some (.ref _), some (.int _)], [.int _, .int _], _)) rfl (u_ rfl) ?_
  refine wi3 (pc := 8) (len_s := 3) (Y := 99) rfl rfl (by decide) (fun c2_s => ?_) (fun c2_s => ?_)
  · replace t_s := t_s.1 c2_s
    refine w_t (pc := 11) (e_s := (3, 1, 0, 0, 0, .null, [])) (y_s := (12, [some (.ref _), some (.int _)], [.ref _], _)) rfl (u_ rfl) ?_
    refine w20r (pc := 12) (len_s := 3) (q_s := 103) rfl (krq hk rfl) ?_
    refine w_t (pc := 15) (e_s := (0, 2, 0, 0, 0, .int 80, [])) (y_s := (17, [some (.ref _), some (.int _)], [.int _, .ref _], _)) rfl (u_ rfl) ?_
    refine w_t (pc := 17) (e_s := (1, 1, 1, 0, 0, .null, [])) (y_s := (18, [some (.ref _), some (.int _)], [.int _, .int _, .ref _], _)) rfl (u_ rfl) ?_
    refine w_t (pc := 18) (e_s := (7, 1, 0, 0, 0, .null, [])) (y_s := (19, [some (.ref _), some (.int _)], [.int (_ + _), .ref _], _)) rfl (u_ rfl) ?_
    refine w22 (pc := 19) (len_s := 1) rfl (hk.1 103 0 104 rfl rfl) (fun c3_s => ?_)
    replace t_s := t_s c3_s
    refine w_t (pc := 20) (e_s := (3, 1, 0, 0, 0, .null, [])) (y_s := (21, [some (.ref _), some (.int _)], [.ref _, .int _], _)) rfl (u_ rfl) ?_
    refine w20r (pc := 21) (len_s := 3) (q_s := 112) rfl (krq hk rfl) ?_
    refine w_t (pc := 24) (e_s := (0, 1, 0, 0, 0, .int 2, [])) (y_s := (25, [some (.ref _), some (.int _)], [.int _, .ref _, .int _], _)) rfl (u_ rfl) ?_
    refine w22 (pc := 25) (len_s := 1) rfl (hk.1 112 0 7 rfl rfl) (fun c4_s => ?_)
    refine wcI (pc := 26) (len_s := 3) rfl rfl (l := [some (.int _)]) rfl ?_
    refine w_t (pc := 0) (e_s := (0, 2, 0, 0, 0, .int 9, [])) (y_s := (2, [some (.int _)], [.int _], _)) rfl (u_ rfl) ?_
    refine w_t (pc := 2) (e_s := (1, 1, 0, 0, 0, .null, [])) (y_s := (3, [some (.int _)], [.int _, .int _], _)) rfl (u_ rfl) ?_
    refine w_t (pc := 3) (e_s := (0, 2, 0, 0, 0, .int 11, [])) (y_s := (5, [some (.int _)], [.int _, .int _, .int _], _)) rfl (u_ rfl) ?_
    refine w8 (pc := 5) (len_s := 1) rfl ?_
    refine w_t (pc := 6) (e_s := (7, 1, 0, 1, 0, .null, [])) (y_s := (7, [some (.int _)], [.int (_ - _)], _)) rfl (u_ rfl) ?_
    refine wrI (pc := 7) (len_s := 1) rfl hk ?_
    show wF _ 182 (29, [some (.ref _), some (.int _)], [.int _, .int _], _) _
    refine wi4 (pc := 29) (len_s := 3) rfl rfl rfl (fun c5_s => ?_) (fun c5_s => ?_)
    · replace t_s := t_s.1 c5_s
      refine w_t (pc := 36) (e_s := (0, 1, 0, 0, 0, .int 0, [])) (y_s := (37, [some (.ref _), some (.int _)], [.int _], _)) rfl (u_ rfl) ?_
      refine wrI (pc := 37) (len_s := 1) rfl hk ?_
      show wF _ 183 (15, [some (.ref _), some (.int _), none], [.int _], _) _
      refine w_t (pc := 15) (e_s := (15, 3, 144, 0, 0, .null, [])) (y_s := (144, [some (.ref _), some (.int _), none], [], _)) rfl (u_ rfl) ?_
      exact wrV (pc := 144) (len_s := 1) rfl hk t_s
    · replace t_s := t_s.2 c5_s
      refine w_t (pc := 32) (e_s := (0, 1, 0, 0, 0, .int 1, [])) (y_s := (33, [some (.ref _), some (.int _)], [.int _], _)) rfl (u_ rfl) ?_
      refine w_t (pc := 33) (e_s := (17, 3, 37, 0, 0, .null, [])) (y_s := (37, [some (.ref _), some (.int _)], [.int _], _)) rfl (u_ rfl) ?_
      refine wrI (pc := 37) (len_s := 1) rfl hk ?_
      show wF _ 183 (15, [some (.ref _), some (.int _), none], [.int _], _) _
      refine w_t (pc := 15) (e_s := (15, 3, 144, 0, 0, .null, [])) (y_s := (18, [some (.ref _), some (.int _), none], [], _)) rfl (u_ rfl) ?_
      exact t_s
  · replace t_s := t_s.2 c2_s
    refine w_t (pc := 36) (e_s := (0, 1, 0, 0, 0, .int 0, [])) (y_s := (37, [some (.ref _), some (.int _)], [.int _], _)) rfl (u_ rfl) ?_
    refine wrI (pc := 37) (len_s := 1) rfl hk ?_
    show wF _ 183 (15, [some (.ref _), some (.int _), none], [.int _], _) _
    refine w_t (pc := 15) (e_s := (15, 3, 144, 0, 0, .null, [])) (y_s := (144, [some (.ref _), some (.int _), none], [], _)) rfl (u_ rfl) ?_
    exact wrV (pc := 144) (len_s := 1) rfl hk t_s
/-- ColdShodModel.goesRoad(I)V, from 18 on -/
theorem sg_183_18 {F_s : Nat} {x1_s : Int32} {l2 : Option Value} {h_s : zH} {K_s : zH → Prop} (hk : hKn h_s) (t_s : (zix (68 + x1_s) < 104 → ((h_s.2.1 102 22).toInt < (h_s.2.1 103 (zix (68 + x1_s))).toInt → (((h_s.2.1 112 2).toInt < 99 → wF F_s 180 (0, [some (.ref 102), some (.int x1_s), none, none], [], h_s) (gI (fun v6 h6 => hKn h6 → (99 < ((h_s.2.1 112 2) + v6).toInt → wF F_s 183 (18, [some (.ref 102), some (.int x1_s), some (.int ((h_s.2.1 112 2) + v6))], [], (h6.1, zup (zup h6.2.1 112 2 99) 102 22 ((h6.2.1 102 22) + 1), h6.2.2.1, h6.2.2.2)) (gV K_s)) ∧ (¬ 99 < ((h_s.2.1 112 2) + v6).toInt → wF F_s 183 (18, [some (.ref 102), some (.int x1_s), some (.int ((h_s.2.1 112 2) + v6))], [], (h6.1, zup (zup h6.2.1 112 2 ((h_s.2.1 112 2) + v6)) 102 22 ((h6.2.1 102 22) + 1), h6.2.2.1, h6.2.2.2)) (gV K_s))))) ∧ (¬ (h_s.2.1 112 2).toInt < 99 → (((h_s.2.1 102 22).toInt = (h_s.2.1 103 (zix (68 + x1_s))).toInt → ((0 < (h_s.2.1 112 3).toInt → K_s (h_s.1, zup (zup h_s.2.1 102 23 1) 112 3 ((h_s.2.1 112 3) - 1), h_s.2.2.1, h_s.2.2.2)) ∧ (¬ 0 < (h_s.2.1 112 3).toInt → K_s (h_s.1, zup (zup h_s.2.1 102 23 1) 112 3 ((h_s.2.1 112 3) - 0), h_s.2.2.1, h_s.2.2.2)))) ∧ (¬ (h_s.2.1 102 22).toInt = (h_s.2.1 103 (zix (68 + x1_s))).toInt → K_s (h_s.1, zup (zup h_s.2.1 102 23 0) 112 3 ((h_s.2.1 112 3) - 0), h_s.2.2.1, h_s.2.2.2)))))) ∧ (¬ (h_s.2.1 102 22).toInt < (h_s.2.1 103 (zix (68 + x1_s))).toInt → (((h_s.2.1 102 22).toInt = (h_s.2.1 103 (zix (68 + x1_s))).toInt → ((0 < (h_s.2.1 112 3).toInt → K_s (h_s.1, zup (zup h_s.2.1 102 23 1) 112 3 ((h_s.2.1 112 3) - 1), h_s.2.2.1, h_s.2.2.2)) ∧ (¬ 0 < (h_s.2.1 112 3).toInt → K_s (h_s.1, zup (zup h_s.2.1 102 23 1) 112 3 ((h_s.2.1 112 3) - 0), h_s.2.2.1, h_s.2.2.2)))) ∧ (¬ (h_s.2.1 102 22).toInt = (h_s.2.1 103 (zix (68 + x1_s))).toInt → K_s (h_s.1, zup (zup h_s.2.1 102 23 0) 112 3 ((h_s.2.1 112 3) - 0), h_s.2.2.1, h_s.2.2.2)))))) : wF (F_s + 1) 183 (18, [some (.ref 102), some (.int x1_s), l2], [], h_s) (gV K_s) := by
  refine w_0 (pc := 18) (e_s := (3, 1, 0, 0, 0, .null, [])) (y_s := (19, [some (.ref _), some (.int _), _], [.ref _], _)) rfl (u_ rfl) ?_
  refine w20 (pc := 19) (len_s := 3) rfl ?_
  refine w_t (pc := 22) (e_s := (3, 1, 0, 0, 0, .null, [])) (y_s := (23, [some (.ref _), some (.int _), _], [.ref _, .int _], _)) rfl (u_ rfl) ?_
  refine w20r (pc := 23) (len_s := 3) (q_s := 103) rfl (krq hk rfl) ?_
  refine w_t (pc := 26) (e_s := (0, 2, 0, 0, 0, .int 68, [])) (y_s := (28, [some (.ref _), some (.int _), _], [.int _, .ref _, .int _], _)) rfl (u_ rfl) ?_
  refine w_t (pc := 28) (e_s := (1, 1, 1, 0, 0, .null, [])) (y_s := (29, [some (.ref _), some (.int _), _], [.int _, .int _, .ref _, .int _], _)) rfl (u_ rfl) ?_
  refine w_t (pc := 29) (e_s := (7, 1, 0, 0, 0, .null, [])) (y_s := (30, [some (.ref _), some (.int _), _], [.int (_ + _), .ref _, .int _], _)) rfl (u_ rfl) ?_
  refine w22 (pc := 30) (len_s := 1) rfl (hk.1 103 0 104 rfl rfl) (fun c1_s => ?_)
  replace t_s := t_s c1_s
  refine wi3 (pc := 31) (len_s := 3) rfl rfl rfl (fun c2_s => ?_) (fun c2_s => ?_)
  · replace t_s := t_s.1 c2_s
    refine w_t (pc := 34) (e_s := (3, 1, 0, 0, 0, .null, [])) (y_s := (35, [some (.ref _), some (.int _), _], [.ref _], _)) rfl (u_ rfl) ?_
    refine w20r (pc := 35) (len_s := 3) (q_s := 112) rfl (krq hk rfl) ?_
    refine w_t (pc := 38) (e_s := (0, 1, 0, 0, 0, .int 2, [])) (y_s := (39, [some (.ref _), some (.int _), _], [.int _, .ref _], _)) rfl (u_ rfl) ?_
    refine w22 (pc := 39) (len_s := 1) rfl (hk.1 112 0 7 rfl rfl) (fun c3_s => ?_)
    refine w_t (pc := 40) (e_s := (0, 2, 0, 0, 0, .int 99, [])) (y_s := (42, [some (.ref _), some (.int _), _], [.int _, .int _], _)) rfl (u_ rfl) ?_
    refine wi3 (pc := 42) (len_s := 3) (Y := 99) rfl rfl (by decide) (fun c4_s => ?_) (fun c4_s => ?_)
    · replace t_s := t_s.1 c4_s
      refine w_t (pc := 45) (e_s := (3, 1, 0, 0, 0, .null, [])) (y_s := (46, [some (.ref _), some (.int _), _], [.ref _], _)) rfl (u_ rfl) ?_
      refine w20r (pc := 46) (len_s := 3) (q_s := 112) rfl (krq hk rfl) ?_
      refine w_t (pc := 49) (e_s := (0, 1, 0, 0, 0, .int 2, [])) (y_s := (50, [some (.ref _), some (.int _), _], [.int _, .ref _], _)) rfl (u_ rfl) ?_
      refine w22 (pc := 50) (len_s := 1) rfl (hk.1 112 0 7 rfl rfl) (fun c5_s => ?_)
      refine w_t (pc := 51) (e_s := (3, 1, 0, 0, 0, .null, [])) (y_s := (52, [some (.ref _), some (.int _), _], [.ref _, .int _], _)) rfl (u_ rfl) ?_
      refine w_t (pc := 52) (e_s := (1, 1, 1, 0, 0, .null, [])) (y_s := (53, [some (.ref _), some (.int _), _], [.int _, .ref _, .int _], _)) rfl (u_ rfl) ?_
      refine wcI (pc := 53) (len_s := 3) rfl rfl (l := [some (.ref _), some (.int _), none, none]) rfl (wmI t_s (fun v6 h6 hk t_s => ?_))
      replace t_s := t_s hk
      refine w_t (pc := 56) (e_s := (7, 1, 0, 0, 0, .null, [])) (y_s := (57, [some (.ref _), some (.int _), _], [.int (_ + _)], _)) rfl (u_ rfl) ?_
      refine w_t (pc := 57) (e_s := (4, 1, 2, 0, 0, .null, [])) (y_s := (58, [some (.ref _), some (.int _), some (.int _)], [], _)) rfl (u_ rfl) ?_
      refine w_t (pc := 58) (e_s := (3, 1, 0, 0, 0, .null, [])) (y_s := (59, [some (.ref _), some (.int _), some (.int _)], [.ref _], _)) rfl (u_ rfl) ?_
      refine w20r (pc := 59) (len_s := 3) (q_s := 112) rfl (krq hk rfl) ?_
      refine w_t (pc := 62) (e_s := (0, 1, 0, 0, 0, .int 2, [])) (y_s := (63, [some (.ref _), some (.int _), some (.int _)], [.int _, .ref _], _)) rfl (u_ rfl) ?_
      refine w_t (pc := 63) (e_s := (1, 1, 2, 0, 0, .null, [])) (y_s := (64, [some (.ref _), some (.int _), some (.int _)], [.int _, .int _, .ref _], _)) rfl (u_ rfl) ?_
      refine w_t (pc := 64) (e_s := (0, 2, 0, 0, 0, .int 99, [])) (y_s := (66, [some (.ref _), some (.int _), some (.int _)], [.int _, .int _, .int _, .ref _], _)) rfl (u_ rfl) ?_
      refine wi5 (pc := 66) (len_s := 3) (Y := 99) rfl rfl (by decide) (fun c7_s => ?_) (fun c7_s => ?_)
      · replace t_s := t_s.1 c7_s
        refine w_t (pc := 69) (e_s := (0, 2, 0, 0, 0, .int 99, [])) (y_s := (71, [some (.ref _), some (.int _), some (.int _)], [.int _, .int _, .ref _], _)) rfl (u_ rfl) ?_
        refine w_t (pc := 71) (e_s := (17, 3, 75, 0, 0, .null, [])) (y_s := (75, [some (.ref _), some (.int _), some (.int _)], [.int _, .int _, .ref _], _)) rfl (u_ rfl) ?_
        refine w25 (pc := 75) (len_s := 1) rfl (hk.1 112 0 7 rfl rfl) (fun c8_s => ?_)
        refine w_t (pc := 76) (e_s := (3, 1, 0, 0, 0, .null, [])) (y_s := (77, [some (.ref _), some (.int _), some (.int _)], [.ref _], _)) rfl (u_ rfl) ?_
        refine w_t (pc := 77) (e_s := (39, 1, 0, 0, 0, .null, [])) (y_s := (78, [some (.ref _), some (.int _), some (.int _)], [.ref _, .ref _], _)) rfl (u_ rfl) ?_
        refine w20 (pc := 78) (len_s := 3) rfl ?_
        refine w_t (pc := 81) (e_s := (0, 1, 0, 0, 0, .int 1, [])) (y_s := (82, [some (.ref _), some (.int _), some (.int _)], [.int _, .int _, .ref _], _)) rfl (u_ rfl) ?_
        refine w_t (pc := 82) (e_s := (7, 1, 0, 0, 0, .null, [])) (y_s := (83, [some (.ref _), some (.int _), some (.int _)], [.int (_ + _), .ref _], _)) rfl (u_ rfl) ?_
        refine w21 (pc := 83) (len_s := 3) rfl ?_
        refine w_t (pc := 86) (e_s := (17, 3, 18, 0, 0, .null, [])) (y_s := (18, [some (.ref _), some (.int _), some (.int _)], [], _)) rfl (u_ rfl) ?_
        exact t_s
      · replace t_s := t_s.2 c7_s
        refine w_t (pc := 74) (e_s := (1, 1, 2, 0, 0, .null, [])) (y_s := (75, [some (.ref _), some (.int _), some (.int _)], [.int _, .int _, .ref _], _)) rfl (u_ rfl) ?_
        refine w25 (pc := 75) (len_s := 1) rfl (hk.1 112 0 7 rfl rfl) (fun c9_s => ?_)
        refine w_t (pc := 76) (e_s := (3, 1, 0, 0, 0, .null, [])) (y_s := (77, [some (.ref _), some (.int _), some (.int _)], [.ref _], _)) rfl (u_ rfl) ?_
        refine w_t (pc := 77) (e_s := (39, 1, 0, 0, 0, .null, [])) (y_s := (78, [some (.ref _), some (.int _), some (.int _)], [.ref _, .ref _], _)) rfl (u_ rfl) ?_
        refine w20 (pc := 78) (len_s := 3) rfl ?_
        refine w_t (pc := 81) (e_s := (0, 1, 0, 0, 0, .int 1, [])) (y_s := (82, [some (.ref _), some (.int _), some (.int _)], [.int _, .int _, .ref _], _)) rfl (u_ rfl) ?_
        refine w_t (pc := 82) (e_s := (7, 1, 0, 0, 0, .null, [])) (y_s := (83, [some (.ref _), some (.int _), some (.int _)], [.int (_ + _), .ref _], _)) rfl (u_ rfl) ?_
        refine w21 (pc := 83) (len_s := 3) rfl ?_
        refine w_t (pc := 86) (e_s := (17, 3, 18, 0, 0, .null, [])) (y_s := (18, [some (.ref _), some (.int _), some (.int _)], [], _)) rfl (u_ rfl) ?_
        exact t_s
    · replace t_s := t_s.2 c4_s
      refine w_t (pc := 89) (e_s := (3, 1, 0, 0, 0, .null, [])) (y_s := (90, [some (.ref _), some (.int _), _], [.ref _], _)) rfl (u_ rfl) ?_
      refine w_t (pc := 90) (e_s := (3, 1, 0, 0, 0, .null, [])) (y_s := (91, [some (.ref _), some (.int _), _], [.ref _, .ref _], _)) rfl (u_ rfl) ?_
      refine w20 (pc := 91) (len_s := 3) rfl ?_
      refine w_t (pc := 94) (e_s := (3, 1, 0, 0, 0, .null, [])) (y_s := (95, [some (.ref _), some (.int _), _], [.ref _, .int _, .ref _], _)) rfl (u_ rfl) ?_
      refine w20r (pc := 95) (len_s := 3) (q_s := 103) rfl (krq hk rfl) ?_
      refine w_t (pc := 98) (e_s := (0, 2, 0, 0, 0, .int 68, [])) (y_s := (100, [some (.ref _), some (.int _), _], [.int _, .ref _, .int _, .ref _], _)) rfl (u_ rfl) ?_
      refine w_t (pc := 100) (e_s := (1, 1, 1, 0, 0, .null, [])) (y_s := (101, [some (.ref _), some (.int _), _], [.int _, .int _, .ref _, .int _, .ref _], _)) rfl (u_ rfl) ?_
      refine w_t (pc := 101) (e_s := (7, 1, 0, 0, 0, .null, [])) (y_s := (102, [some (.ref _), some (.int _), _], [.int (_ + _), .ref _, .int _, .ref _], _)) rfl (u_ rfl) ?_
      refine w22 (pc := 102) (len_s := 1) rfl (hk.1 103 0 104 rfl rfl) (fun c10_s => ?_)
      refine wi1 (pc := 103) (len_s := 3) rfl rfl rfl (fun c11_s => ?_) (fun c11_s => ?_)
      · replace t_s := t_s.1 c11_s
        refine w_t (pc := 106) (e_s := (0, 1, 0, 0, 0, .int 1, [])) (y_s := (107, [some (.ref _), some (.int _), _], [.int _, .ref _], _)) rfl (u_ rfl) ?_
        refine w_t (pc := 107) (e_s := (17, 3, 111, 0, 0, .null, [])) (y_s := (111, [some (.ref _), some (.int _), _], [.int _, .ref _], _)) rfl (u_ rfl) ?_
        refine w21b (pc := 111) (len_s := 3) rfl ?_
        refine w_t (pc := 114) (e_s := (3, 1, 0, 0, 0, .null, [])) (y_s := (115, [some (.ref _), some (.int _), _], [.ref _], _)) rfl (u_ rfl) ?_
        refine w20r (pc := 115) (len_s := 3) (q_s := 112) rfl (krq hk rfl) ?_
        refine w_t (pc := 118) (e_s := (0, 1, 0, 0, 0, .int 3, [])) (y_s := (119, [some (.ref _), some (.int _), _], [.int _, .ref _], _)) rfl (u_ rfl) ?_
        refine w_t (pc := 119) (e_s := (41, 1, 0, 0, 0, .null, [])) (y_s := (120, [some (.ref _), some (.int _), _], [.int _, .ref _, .int _, .ref _], _)) rfl (u_ rfl) ?_
        refine w22 (pc := 120) (len_s := 1) rfl (hk.1 112 0 7 rfl rfl) (fun c12_s => ?_)
        refine w_t (pc := 121) (e_s := (3, 1, 0, 0, 0, .null, [])) (y_s := (122, [some (.ref _), some (.int _), _], [.ref _, .int _, .int _, .ref _], _)) rfl (u_ rfl) ?_
        refine w20 (pc := 122) (len_s := 3) rfl ?_
        refine w_t (pc := 125) (e_s := (15, 3, 141, 0, 0, .null, [])) (y_s := (128, [some (.ref _), some (.int _), _], [.int _, .int _, .ref _], _)) rfl (u_ rfl) ?_
        refine w_t (pc := 128) (e_s := (3, 1, 0, 0, 0, .null, [])) (y_s := (129, [some (.ref _), some (.int _), _], [.ref _, .int _, .int _, .ref _], _)) rfl (u_ rfl) ?_
        refine w20r (pc := 129) (len_s := 3) (q_s := 112) rfl (krq hk rfl) ?_
        refine w_t (pc := 132) (e_s := (0, 1, 0, 0, 0, .int 3, [])) (y_s := (133, [some (.ref _), some (.int _), _], [.int _, .ref _, .int _, .int _, .ref _], _)) rfl (u_ rfl) ?_
        refine w22 (pc := 133) (len_s := 1) rfl (hk.1 112 0 7 rfl rfl) (fun c13_s => ?_)
        refine wq5 (pc := 134) (len_s := 3) rfl rfl (fun c14_s => ?_) (fun c14_s => ?_)
        · replace t_s := t_s.1 c14_s
          refine w_t (pc := 137) (e_s := (0, 1, 0, 0, 0, .int 1, [])) (y_s := (138, [some (.ref _), some (.int _), _], [.int _, .int _, .int _, .ref _], _)) rfl (u_ rfl) ?_
          refine w_t (pc := 138) (e_s := (17, 3, 142, 0, 0, .null, [])) (y_s := (142, [some (.ref _), some (.int _), _], [.int _, .int _, .int _, .ref _], _)) rfl (u_ rfl) ?_
          refine w_t (pc := 142) (e_s := (7, 1, 0, 1, 0, .null, [])) (y_s := (143, [some (.ref _), some (.int _), _], [.int (_ - _), .int _, .ref _], _)) rfl (u_ rfl) ?_
          refine w25 (pc := 143) (len_s := 1) rfl (hk.1 112 0 7 rfl rfl) (fun c15_s => ?_)
          exact wrV (pc := 144) (len_s := 1) rfl hk t_s
        · replace t_s := t_s.2 c14_s
          refine w_t (pc := 141) (e_s := (0, 1, 0, 0, 0, .int 0, [])) (y_s := (142, [some (.ref _), some (.int _), _], [.int _, .int _, .int _, .ref _], _)) rfl (u_ rfl) ?_
          refine w_t (pc := 142) (e_s := (7, 1, 0, 1, 0, .null, [])) (y_s := (143, [some (.ref _), some (.int _), _], [.int (_ - _), .int _, .ref _], _)) rfl (u_ rfl) ?_
          refine w25 (pc := 143) (len_s := 1) rfl (hk.1 112 0 7 rfl rfl) (fun c16 => ?_)
          exact wrV (pc := 144) (len_s := 1) rfl hk t_s
      · replace t_s := t_s.2 c11_s
        refine w_t (pc := 110) (e_s := (0, 1, 0, 0, 0, .int 0, [])) (y_s := (111, [some (.ref _), some (.int _), _], [.int _, .ref _], _)) rfl (u_ rfl) ?_
        refine w21b (pc := 111) (len_s := 3) rfl ?_
        refine w_t (pc := 114) (e_s := (3, 1, 0, 0, 0, .null, [])) (y_s := (115, [some (.ref _), some (.int _), _], [.ref _], _)) rfl (u_ rfl) ?_
        refine w20r (pc := 115) (len_s := 3) (q_s := 112) rfl (krq hk rfl) ?_
        refine w_t (pc := 118) (e_s := (0, 1, 0, 0, 0, .int 3, [])) (y_s := (119, [some (.ref _), some (.int _), _], [.int _, .ref _], _)) rfl (u_ rfl) ?_
        refine w_t (pc := 119) (e_s := (41, 1, 0, 0, 0, .null, [])) (y_s := (120, [some (.ref _), some (.int _), _], [.int _, .ref _, .int _, .ref _], _)) rfl (u_ rfl) ?_
        refine w22 (pc := 120) (len_s := 1) rfl (hk.1 112 0 7 rfl rfl) (fun c17 => ?_)
        refine w_t (pc := 121) (e_s := (3, 1, 0, 0, 0, .null, [])) (y_s := (122, [some (.ref _), some (.int _), _], [.ref _, .int _, .int _, .ref _], _)) rfl (u_ rfl) ?_
        refine w20 (pc := 122) (len_s := 3) rfl ?_
        refine w_t (pc := 125) (e_s := (15, 3, 141, 0, 0, .null, [])) (y_s := (141, [some (.ref _), some (.int _), _], [.int _, .int _, .ref _], _)) rfl (u_ rfl) ?_
        refine w_t (pc := 141) (e_s := (0, 1, 0, 0, 0, .int 0, [])) (y_s := (142, [some (.ref _), some (.int _), _], [.int _, .int _, .int _, .ref _], _)) rfl (u_ rfl) ?_
        refine w_t (pc := 142) (e_s := (7, 1, 0, 1, 0, .null, [])) (y_s := (143, [some (.ref _), some (.int _), _], [.int (_ - _), .int _, .ref _], _)) rfl (u_ rfl) ?_
        refine w25 (pc := 143) (len_s := 1) rfl (hk.1 112 0 7 rfl rfl) (fun c18_s => ?_)
        exact wrV (pc := 144) (len_s := 1) rfl hk t_s
  · replace t_s := t_s.2 c2_s
    refine w_t (pc := 89) (e_s := (3, 1, 0, 0, 0, .null, [])) (y_s := (90, [some (.ref _), some (.int _), _], [.ref _], _)) rfl (u_ rfl) ?_
    refine w_t (pc := 90) (e_s := (3, 1, 0, 0, 0, .null, [])) (y_s := (91, [some (.ref _), some (.int _), _], [.ref _, .ref _], _)) rfl (u_ rfl) ?_
    refine w20 (pc := 91) (len_s := 3) rfl ?_
    refine w_t (pc := 94) (e_s := (3, 1, 0, 0, 0, .null, [])) (y_s := (95, [some (.ref _), some (.int _), _], [.ref _, .int _, .ref _], _)) rfl (u_ rfl) ?_
    refine w20r (pc := 95) (len_s := 3) (q_s := 103) rfl (krq hk rfl) ?_
    refine w_t (pc := 98) (e_s := (0, 2, 0, 0, 0, .int 68, [])) (y_s := (100, [some (.ref _), some (.int _), _], [.int _, .ref _, .int _, .ref _], _)) rfl (u_ rfl) ?_
    refine w_t (pc := 100) (e_s := (1, 1, 1, 0, 0, .null, [])) (y_s := (101, [some (.ref _), some (.int _), _], [.int _, .int _, .ref _, .int _, .ref _], _)) rfl (u_ rfl) ?_
    refine w_t (pc := 101) (e_s := (7, 1, 0, 0, 0, .null, [])) (y_s := (102, [some (.ref _), some (.int _), _], [.int (_ + _), .ref _, .int _, .ref _], _)) rfl (u_ rfl) ?_
    refine w22 (pc := 102) (len_s := 1) rfl (hk.1 103 0 104 rfl rfl) (fun c19_s => ?_)
    refine wi1 (pc := 103) (len_s := 3) rfl rfl rfl (fun c20_s => ?_) (fun c20_s => ?_)
    · replace t_s := t_s.1 c20_s
      refine w_t (pc := 106) (e_s := (0, 1, 0, 0, 0, .int 1, [])) (y_s := (107, [some (.ref _), some (.int _), _], [.int _, .ref _], _)) rfl (u_ rfl) ?_
      refine w_t (pc := 107) (e_s := (17, 3, 111, 0, 0, .null, [])) (y_s := (111, [some (.ref _), some (.int _), _], [.int _, .ref _], _)) rfl (u_ rfl) ?_
      refine w21b (pc := 111) (len_s := 3) rfl ?_
      refine w_t (pc := 114) (e_s := (3, 1, 0, 0, 0, .null, [])) (y_s := (115, [some (.ref _), some (.int _), _], [.ref _], _)) rfl (u_ rfl) ?_
      refine w20r (pc := 115) (len_s := 3) (q_s := 112) rfl (krq hk rfl) ?_
      refine w_t (pc := 118) (e_s := (0, 1, 0, 0, 0, .int 3, [])) (y_s := (119, [some (.ref _), some (.int _), _], [.int _, .ref _], _)) rfl (u_ rfl) ?_
      refine w_t (pc := 119) (e_s := (41, 1, 0, 0, 0, .null, [])) (y_s := (120, [some (.ref _), some (.int _), _], [.int _, .ref _, .int _, .ref _], _)) rfl (u_ rfl) ?_
      refine w22 (pc := 120) (len_s := 1) rfl (hk.1 112 0 7 rfl rfl) (fun c21 => ?_)
      refine w_t (pc := 121) (e_s := (3, 1, 0, 0, 0, .null, [])) (y_s := (122, [some (.ref _), some (.int _), _], [.ref _, .int _, .int _, .ref _], _)) rfl (u_ rfl) ?_
      refine w20 (pc := 122) (len_s := 3) rfl ?_
      refine w_t (pc := 125) (e_s := (15, 3, 141, 0, 0, .null, [])) (y_s := (128, [some (.ref _), some (.int _), _], [.int _, .int _, .ref _], _)) rfl (u_ rfl) ?_
      refine w_t (pc := 128) (e_s := (3, 1, 0, 0, 0, .null, [])) (y_s := (129, [some (.ref _), some (.int _), _], [.ref _, .int _, .int _, .ref _], _)) rfl (u_ rfl) ?_
      refine w20r (pc := 129) (len_s := 3) (q_s := 112) rfl (krq hk rfl) ?_
      refine w_t (pc := 132) (e_s := (0, 1, 0, 0, 0, .int 3, [])) (y_s := (133, [some (.ref _), some (.int _), _], [.int _, .ref _, .int _, .int _, .ref _], _)) rfl (u_ rfl) ?_
      refine w22 (pc := 133) (len_s := 1) rfl (hk.1 112 0 7 rfl rfl) (fun c22 => ?_)
      refine wq5 (pc := 134) (len_s := 3) rfl rfl (fun c23_s => ?_) (fun c23_s => ?_)
      · replace t_s := t_s.1 c23_s
        refine w_t (pc := 137) (e_s := (0, 1, 0, 0, 0, .int 1, [])) (y_s := (138, [some (.ref _), some (.int _), _], [.int _, .int _, .int _, .ref _], _)) rfl (u_ rfl) ?_
        refine w_t (pc := 138) (e_s := (17, 3, 142, 0, 0, .null, [])) (y_s := (142, [some (.ref _), some (.int _), _], [.int _, .int _, .int _, .ref _], _)) rfl (u_ rfl) ?_
        refine w_t (pc := 142) (e_s := (7, 1, 0, 1, 0, .null, [])) (y_s := (143, [some (.ref _), some (.int _), _], [.int (_ - _), .int _, .ref _], _)) rfl (u_ rfl) ?_
        refine w25 (pc := 143) (len_s := 1) rfl (hk.1 112 0 7 rfl rfl) (fun c24_s => ?_)
        exact wrV (pc := 144) (len_s := 1) rfl hk t_s
      · replace t_s := t_s.2 c23_s
        refine w_t (pc := 141) (e_s := (0, 1, 0, 0, 0, .int 0, [])) (y_s := (142, [some (.ref _), some (.int _), _], [.int _, .int _, .int _, .ref _], _)) rfl (u_ rfl) ?_
        refine w_t (pc := 142) (e_s := (7, 1, 0, 1, 0, .null, [])) (y_s := (143, [some (.ref _), some (.int _), _], [.int (_ - _), .int _, .ref _], _)) rfl (u_ rfl) ?_
        refine w25 (pc := 143) (len_s := 1) rfl (hk.1 112 0 7 rfl rfl) (fun c25_s => ?_)
        exact wrV (pc := 144) (len_s := 1) rfl hk t_s
    · replace t_s := t_s.2 c20_s
      refine w_t (pc := 110) (e_s := (0, 1, 0, 0, 0, .int 0, [])) (y_s := (111, [some (.ref _), some (.int _), _], [.int _, .ref _], _)) rfl (u_ rfl) ?_
      refine w21b (pc := 111) (len_s := 3) rfl ?_
      refine w_t (pc := 114) (e_s := (3, 1, 0, 0, 0, .null, [])) (y_s := (115, [some (.ref _), some (.int _), _], [.ref _], _)) rfl (u_ rfl) ?_
      refine w20r (pc := 115) (len_s := 3) (q_s := 112) rfl (krq hk rfl) ?_
      refine w_t (pc := 118) (e_s := (0, 1, 0, 0, 0, .int 3, [])) (y_s := (119, [some (.ref _), some (.int _), _], [.int _, .ref _], _)) rfl (u_ rfl) ?_
      refine w_t (pc := 119) (e_s := (41, 1, 0, 0, 0, .null, [])) (y_s := (120, [some (.ref _), some (.int _), _], [.int _, .ref _, .int _, .ref _], _)) rfl (u_ rfl) ?_
      refine w22 (pc := 120) (len_s := 1) rfl (hk.1 112 0 7 rfl rfl) (fun c26 => ?_)
      refine w_t (pc := 121) (e_s := (3, 1, 0, 0, 0, .null, [])) (y_s := (122, [some (.ref _), some (.int _), _], [.ref _, .int _, .int _, .ref _], _)) rfl (u_ rfl) ?_
      refine w20 (pc := 122) (len_s := 3) rfl ?_
      refine w_t (pc := 125) (e_s := (15, 3, 141, 0, 0, .null, [])) (y_s := (141, [some (.ref _), some (.int _), _], [.int _, .int _, .ref _], _)) rfl (u_ rfl) ?_
      refine w_t (pc := 141) (e_s := (0, 1, 0, 0, 0, .int 0, [])) (y_s := (142, [some (.ref _), some (.int _), _], [.int _, .int _, .int _, .ref _], _)) rfl (u_ rfl) ?_
      refine w_t (pc := 142) (e_s := (7, 1, 0, 1, 0, .null, [])) (y_s := (143, [some (.ref _), some (.int _), _], [.int (_ - _), .int _, .ref _], _)) rfl (u_ rfl) ?_
      refine w25 (pc := 143) (len_s := 1) rfl (hk.1 112 0 7 rfl rfl) (fun c27_s => ?_)
      exact wrV (pc := 144) (len_s := 1) rfl hk t_s
/-- ColdShod.wears(II)I, from 0 on -/
theorem sg_102_0 {F_s : Nat} {x1_s : Int32} {x2_s : Int32} {h_s : zH} {K_s : Int32 → zH → Prop} (hk : hKn h_s) (t_s : (x1_s.toInt < 0 → K_s (-1) h_s) ∧ (¬ x1_s.toInt < 0 → ((x1_s.toInt < (h_s.2.1 7 7).toInt → ((x2_s.toInt < 0 → K_s (-1) h_s) ∧ (¬ x2_s.toInt < 0 → ((x2_s.toInt < (h_s.2.1 7 8).toInt → (zix x1_s < 8 → (zix x2_s < 12 → wF F_s 23 (0, [some (.ref 7), some (.ref (20 + (zix x1_s))), some (.ref (28 + (zix x2_s)))], [], h_s) (gI (fun v7 h7 => hKn h7 → K_s v7 h7))))) ∧ (¬ x2_s.toInt < (h_s.2.1 7 8).toInt → K_s (-1) h_s))))) ∧ (¬ x1_s.toInt < (h_s.2.1 7 7).toInt → K_s (-1) h_s)))) : wF (F_s + 1) 102 (0, [some (.ref 6), some (.int x1_s), some (.int x2_s)], [], h_s) (gI K_s) := by
  refine w_0 (pc := 0) (e_s := (3, 1, 0, 0, 0, .null, [])) (y_s := (1, [some (.ref _), some (.int _), some (.int _)], [.ref _], _)) rfl (u_ rfl) ?_
  refine w20r (pc := 1) (len_s := 3) (q_s := 7) rfl (krq hk rfl) ?_
  refine w_t (pc := 4) (e_s := (1, 1, 1, 0, 0, .null, [])) (y_s := (5, [some (.ref _), some (.int _), some (.int _)], [.int _, .ref _], _)) rfl (u_ rfl) ?_
  refine wcI (pc := 5) (len_s := 3) rfl rfl (l := [some (.ref _), some (.int _)]) rfl ?_
  refine w_t (pc := 0) (e_s := (1, 1, 1, 0, 0, .null, [])) (y_s := (1, [some (.ref _), some (.int _)], [.int _], _)) rfl (u_ rfl) ?_
  refine wq2 (pc := 1) (len_s := 3) rfl rfl (fun c1_s => ?_) (fun c1_s => ?_)
  · replace t_s := t_s.1 c1_s
    refine w_t (pc := 16) (e_s := (0, 1, 0, 0, 0, .int 0, [])) (y_s := (17, [some (.ref _), some (.int _)], [.int _], _)) rfl (u_ rfl) ?_
    refine wrI (pc := 17) (len_s := 1) rfl hk ?_
    show wF _ 102 (8, [some (.ref _), some (.int _), some (.int _)], [.int _], _) _
    refine w_t (pc := 8) (e_s := (15, 3, 22, 0, 0, .null, [])) (y_s := (22, [some (.ref _), some (.int _), some (.int _)], [], _)) rfl (u_ rfl) ?_
    refine w_t (pc := 22) (e_s := (0, 1, 0, 0, 0, .int (-1), [])) (y_s := (23, [some (.ref _), some (.int _), some (.int _)], [.int _], _)) rfl (u_ rfl) ?_
    exact wrI (pc := 23) (len_s := 1) rfl hk t_s
  · replace t_s := t_s.2 c1_s
    refine w_t (pc := 4) (e_s := (1, 1, 1, 0, 0, .null, [])) (y_s := (5, [some (.ref _), some (.int _)], [.int _], _)) rfl (u_ rfl) ?_
    refine w_t (pc := 5) (e_s := (3, 1, 0, 0, 0, .null, [])) (y_s := (6, [some (.ref _), some (.int _)], [.ref _, .int _], _)) rfl (u_ rfl) ?_
    refine w20 (pc := 6) (len_s := 3) rfl ?_
    refine wi3 (pc := 9) (len_s := 3) rfl rfl rfl (fun c2_s => ?_) (fun c2_s => ?_)
    · replace t_s := t_s.1 c2_s
      refine w_t (pc := 12) (e_s := (0, 1, 0, 0, 0, .int 1, [])) (y_s := (13, [some (.ref _), some (.int _)], [.int _], _)) rfl (u_ rfl) ?_
      refine w_t (pc := 13) (e_s := (17, 3, 17, 0, 0, .null, [])) (y_s := (17, [some (.ref _), some (.int _)], [.int _], _)) rfl (u_ rfl) ?_
      refine wrI (pc := 17) (len_s := 1) rfl hk ?_
      show wF _ 102 (8, [some (.ref _), some (.int _), some (.int _)], [.int _], _) _
      refine w_t (pc := 8) (e_s := (15, 3, 22, 0, 0, .null, [])) (y_s := (11, [some (.ref _), some (.int _), some (.int _)], [], _)) rfl (u_ rfl) ?_
      refine w_t (pc := 11) (e_s := (3, 1, 0, 0, 0, .null, [])) (y_s := (12, [some (.ref _), some (.int _), some (.int _)], [.ref _], _)) rfl (u_ rfl) ?_
      refine w20r (pc := 12) (len_s := 3) (q_s := 7) rfl (krq hk rfl) ?_
      refine w_t (pc := 15) (e_s := (1, 1, 2, 0, 0, .null, [])) (y_s := (16, [some (.ref _), some (.int _), some (.int _)], [.int _, .ref _], _)) rfl (u_ rfl) ?_
      refine wcI (pc := 16) (len_s := 3) rfl rfl (l := [some (.ref _), some (.int _)]) rfl ?_
      refine w_t (pc := 0) (e_s := (1, 1, 1, 0, 0, .null, [])) (y_s := (1, [some (.ref _), some (.int _)], [.int _], _)) rfl (u_ rfl) ?_
      refine wq2 (pc := 1) (len_s := 3) rfl rfl (fun c3_s => ?_) (fun c3_s => ?_)
      · replace t_s := t_s.1 c3_s
        refine w_t (pc := 16) (e_s := (0, 1, 0, 0, 0, .int 0, [])) (y_s := (17, [some (.ref _), some (.int _)], [.int _], _)) rfl (u_ rfl) ?_
        refine wrI (pc := 17) (len_s := 1) rfl hk ?_
        show wF _ 102 (19, [some (.ref _), some (.int _), some (.int _)], [.int _], _) _
        refine w_t (pc := 19) (e_s := (15, 3, 24, 1, 0, .null, [])) (y_s := (22, [some (.ref _), some (.int _), some (.int _)], [], _)) rfl (u_ rfl) ?_
        refine w_t (pc := 22) (e_s := (0, 1, 0, 0, 0, .int (-1), [])) (y_s := (23, [some (.ref _), some (.int _), some (.int _)], [.int _], _)) rfl (u_ rfl) ?_
        exact wrI (pc := 23) (len_s := 1) rfl hk t_s
      · replace t_s := t_s.2 c3_s
        refine w_t (pc := 4) (e_s := (1, 1, 1, 0, 0, .null, [])) (y_s := (5, [some (.ref _), some (.int _)], [.int _], _)) rfl (u_ rfl) ?_
        refine w_t (pc := 5) (e_s := (3, 1, 0, 0, 0, .null, [])) (y_s := (6, [some (.ref _), some (.int _)], [.ref _, .int _], _)) rfl (u_ rfl) ?_
        refine w20 (pc := 6) (len_s := 3) rfl ?_
        refine wi3 (pc := 9) (len_s := 3) rfl rfl rfl (fun c4_s => ?_) (fun c4_s => ?_)
        · replace t_s := t_s.1 c4_s
          refine w_t (pc := 12) (e_s := (0, 1, 0, 0, 0, .int 1, [])) (y_s := (13, [some (.ref _), some (.int _)], [.int _], _)) rfl (u_ rfl) ?_
          refine w_t (pc := 13) (e_s := (17, 3, 17, 0, 0, .null, [])) (y_s := (17, [some (.ref _), some (.int _)], [.int _], _)) rfl (u_ rfl) ?_
          refine wrI (pc := 17) (len_s := 1) rfl hk ?_
          show wF _ 102 (19, [some (.ref _), some (.int _), some (.int _)], [.int _], _) _
          refine w_t (pc := 19) (e_s := (15, 3, 24, 1, 0, .null, [])) (y_s := (24, [some (.ref _), some (.int _), some (.int _)], [], _)) rfl (u_ rfl) ?_
          refine w_t (pc := 24) (e_s := (3, 1, 0, 0, 0, .null, [])) (y_s := (25, [some (.ref _), some (.int _), some (.int _)], [.ref _], _)) rfl (u_ rfl) ?_
          refine w20r (pc := 25) (len_s := 3) (q_s := 7) rfl (krq hk rfl) ?_
          refine w_t (pc := 28) (e_s := (3, 1, 0, 0, 0, .null, [])) (y_s := (29, [some (.ref _), some (.int _), some (.int _)], [.ref _, .ref _], _)) rfl (u_ rfl) ?_
          refine w20r (pc := 29) (len_s := 3) (q_s := 7) rfl (krq hk rfl) ?_
          refine w20r (pc := 32) (len_s := 3) (q_s := 10) rfl (krq hk rfl) ?_
          refine w_t (pc := 35) (e_s := (1, 1, 1, 0, 0, .null, [])) (y_s := (36, [some (.ref _), some (.int _), some (.int _)], [.int _, .ref _, .ref _], _)) rfl (u_ rfl) ?_
          refine w24 (g_s := fun j_ => 20 + j_) (pc := 36) (len_s := 1) hk rfl (hk.1 10 2 8 rfl rfl) kg10 (fun c5_s => ?_)
          replace t_s := t_s c5_s
          refine w_t (pc := 37) (e_s := (3, 1, 0, 0, 0, .null, [])) (y_s := (38, [some (.ref _), some (.int _), some (.int _)], [.ref _, .ref _, .ref _], _)) rfl (u_ rfl) ?_
          refine w20r (pc := 38) (len_s := 3) (q_s := 7) rfl (krq hk rfl) ?_
          refine w20r (pc := 41) (len_s := 3) (q_s := 11) rfl (krq hk rfl) ?_
          refine w_t (pc := 44) (e_s := (1, 1, 2, 0, 0, .null, [])) (y_s := (45, [some (.ref _), some (.int _), some (.int _)], [.int _, .ref _, .ref _, .ref _], _)) rfl (u_ rfl) ?_
          refine w24 (g_s := fun j_ => 28 + j_) (pc := 45) (len_s := 1) hk rfl (hk.1 11 3 12 rfl rfl) kg11 (fun c6_s => ?_)
          replace t_s := t_s c6_s
          refine wcI (pc := 46) (len_s := 3) rfl rfl (l := [some (.ref _), some (.ref _), some (.ref _)]) rfl (wmI t_s (fun v7 h7 hk t_s => ?_))
          replace t_s := t_s hk
          exact wrI (pc := 49) (len_s := 1) rfl hk t_s
        · replace t_s := t_s.2 c4_s
          refine w_t (pc := 16) (e_s := (0, 1, 0, 0, 0, .int 0, [])) (y_s := (17, [some (.ref _), some (.int _)], [.int _], _)) rfl (u_ rfl) ?_
          refine wrI (pc := 17) (len_s := 1) rfl hk ?_
          show wF _ 102 (19, [some (.ref _), some (.int _), some (.int _)], [.int _], _) _
          refine w_t (pc := 19) (e_s := (15, 3, 24, 1, 0, .null, [])) (y_s := (22, [some (.ref _), some (.int _), some (.int _)], [], _)) rfl (u_ rfl) ?_
          refine w_t (pc := 22) (e_s := (0, 1, 0, 0, 0, .int (-1), [])) (y_s := (23, [some (.ref _), some (.int _), some (.int _)], [.int _], _)) rfl (u_ rfl) ?_
          exact wrI (pc := 23) (len_s := 1) rfl hk t_s
    · replace t_s := t_s.2 c2_s
      refine w_t (pc := 16) (e_s := (0, 1, 0, 0, 0, .int 0, [])) (y_s := (17, [some (.ref _), some (.int _)], [.int _], _)) rfl (u_ rfl) ?_
      refine wrI (pc := 17) (len_s := 1) rfl hk ?_
      show wF _ 102 (8, [some (.ref _), some (.int _), some (.int _)], [.int _], _) _
      refine w_t (pc := 8) (e_s := (15, 3, 22, 0, 0, .null, [])) (y_s := (22, [some (.ref _), some (.int _), some (.int _)], [], _)) rfl (u_ rfl) ?_
      refine w_t (pc := 22) (e_s := (0, 1, 0, 0, 0, .int (-1), [])) (y_s := (23, [some (.ref _), some (.int _), some (.int _)], [.int _], _)) rfl (u_ rfl) ?_
      exact wrI (pc := 23) (len_s := 1) rfl hk t_s
/-- ColdShodModel.wears(II)I, from 0 on -/
theorem sg_181_0 {F_s : Nat} {x1_s : Int32} {x2_s : Int32} {h_s : zH} {K_s : Int32 → zH → Prop} (hk : hKn h_s) (t_s : (x1_s.toInt < 0 → K_s (-1) h_s) ∧ (¬ x1_s.toInt < 0 → ((((h_s.2.1 102 7) - 1).toInt < x1_s.toInt → K_s (-1) h_s) ∧ (¬ ((h_s.2.1 102 7) - 1).toInt < x1_s.toInt → ((x2_s.toInt < 0 → K_s (-1) h_s) ∧ (¬ x2_s.toInt < 0 → ((((h_s.2.1 102 8) - 1).toInt < x2_s.toInt → K_s (-1) h_s) ∧ (¬ ((h_s.2.1 102 8) - 1).toInt < x2_s.toInt → wF F_s 178 (0, [some (.ref 102), some (.int x1_s), none], [], h_s) (gV (fun h5 => hKn h5 → wF F_s 180 (0, [some (.ref 102), some (.int x2_s), none, none], [], h5) (gI (fun v6 h6 => hKn h6 → K_s v6 h6)))))))))))) : wF (F_s + 1) 181 (0, [some (.ref 102), some (.int x1_s), some (.int x2_s)], [], h_s) (gI K_s) := by
  refine w_0 (pc := 0) (e_s := (3, 1, 0, 0, 0, .null, [])) (y_s := (1, [some (.ref _), some (.int _), some (.int _)], [.ref _], _)) rfl (u_ rfl) ?_
  refine w_t (pc := 1) (e_s := (1, 1, 1, 0, 0, .null, [])) (y_s := (2, [some (.ref _), some (.int _), some (.int _)], [.int _, .ref _], _)) rfl (u_ rfl) ?_
  refine w_t (pc := 2) (e_s := (10, 1, 0, 0, 0, .null, [])) (y_s := (3, [some (.ref _), some (.int _), some (.int _)], [.long (Int32.toInt64 _), .ref _], _)) rfl (u_ rfl) ?_
  refine wcI (pc := 3) (len_s := 3) rfl rfl (l := [some (.ref _), some (.long _), none]) rfl ?_
  refine w_t (pc := 0) (e_s := (2, 1, 1, 0, 0, .null, [])) (y_s := (1, [some (.ref _), some (.long _), none], [.long _], _)) rfl (u_ rfl) ?_
  refine w_t (pc := 1) (e_s := (0, 1, 0, 0, 0, .long 0, [])) (y_s := (2, [some (.ref _), some (.long _), none], [.long _, .long _], _)) rfl (u_ rfl) ?_
  refine w_t (pc := 2) (e_s := (3, 1, 0, 0, 0, .null, [])) (y_s := (3, [some (.ref _), some (.long _), none], [.ref _, .long _, .long _], _)) rfl (u_ rfl) ?_
  refine w20 (pc := 3) (len_s := 3) rfl ?_
  refine w_t (pc := 6) (e_s := (0, 1, 0, 0, 0, .int 1, [])) (y_s := (7, [some (.ref _), some (.long _), none], [.int _, .int _, .long _, .long _], _)) rfl (u_ rfl) ?_
  refine w_t (pc := 7) (e_s := (7, 1, 0, 1, 0, .null, [])) (y_s := (8, [some (.ref _), some (.long _), none], [.int (_ - _), .long _, .long _], _)) rfl (u_ rfl) ?_
  refine w_t (pc := 8) (e_s := (10, 1, 0, 0, 0, .null, [])) (y_s := (9, [some (.ref _), some (.long _), none], [.long (Int32.toInt64 _), .long _, .long _], _)) rfl (u_ rfl) ?_
  refine wcI (pc := 9) (len_s := 3) rfl rfl (l := [some (.long _), none, some (.long _), none, some (.long _), none]) rfl ?_
  refine w_t (pc := 0) (e_s := (2, 1, 0, 0, 0, .null, [])) (y_s := (1, [some (.long _), none, some (.long _), none, some (.long _), none], [.long _], _)) rfl (u_ rfl) ?_
  refine w_t (pc := 1) (e_s := (2, 1, 2, 0, 0, .null, [])) (y_s := (2, [some (.long _), none, some (.long _), none, some (.long _), none], [.long _, .long _], _)) rfl (u_ rfl) ?_
  refine w_t (pc := 2) (e_s := (14, 1, 0, 0, 0, .null, [])) (y_s := (3, [some (.long _), none, some (.long _), none, some (.long _), none], [.int (lg_cmp _ _)], _)) rfl (u_ rfl) ?_
  refine wl2 (pc := 3) (len_s := 3) (Y := 0) rfl (Int32.toInt_toInt64 _) (by decide) (fun c1_s => ?_) (fun c1_s => ?_)
  · replace t_s := t_s.1 c1_s
    refine w_t (pc := 17) (e_s := (0, 1, 0, 0, 0, .int 0, [])) (y_s := (18, [some (.long _), none, some (.long _), none, some (.long _), none], [.int _], _)) rfl (u_ rfl) ?_
    refine wrI (pc := 18) (len_s := 1) rfl hk ?_
    show wF _ 152 (12, [some (.ref _), some (.long _), none], [.int _], _) _
    refine wrI (pc := 12) (len_s := 1) rfl hk ?_
    show wF _ 181 (6, [some (.ref _), some (.int _), some (.int _)], [.int _], _) _
    refine w_t (pc := 6) (e_s := (15, 3, 18, 0, 0, .null, [])) (y_s := (18, [some (.ref _), some (.int _), some (.int _)], [], _)) rfl (u_ rfl) ?_
    refine w_t (pc := 18) (e_s := (0, 1, 0, 0, 0, .int (-1), [])) (y_s := (19, [some (.ref _), some (.int _), some (.int _)], [.int _], _)) rfl (u_ rfl) ?_
    exact wrI (pc := 19) (len_s := 1) rfl hk t_s
  · replace t_s := t_s.2 c1_s
    refine w_t (pc := 6) (e_s := (2, 1, 0, 0, 0, .null, [])) (y_s := (7, [some (.long _), none, some (.long _), none, some (.long _), none], [.long _], _)) rfl (u_ rfl) ?_
    refine w_t (pc := 7) (e_s := (2, 2, 4, 0, 0, .null, [])) (y_s := (9, [some (.long _), none, some (.long _), none, some (.long _), none], [.long _, .long _], _)) rfl (u_ rfl) ?_
    refine w_t (pc := 9) (e_s := (14, 1, 0, 0, 0, .null, [])) (y_s := (10, [some (.long _), none, some (.long _), none, some (.long _), none], [.int (lg_cmp _ _)], _)) rfl (u_ rfl) ?_
    refine wl4 (pc := 10) (len_s := 3) rfl (Int32.toInt_toInt64 _) (Int32.toInt_toInt64 _) (fun c2_s => ?_) (fun c2_s => ?_)
    · replace t_s := t_s.1 c2_s
      refine w_t (pc := 17) (e_s := (0, 1, 0, 0, 0, .int 0, [])) (y_s := (18, [some (.long _), none, some (.long _), none, some (.long _), none], [.int _], _)) rfl (u_ rfl) ?_
      refine wrI (pc := 18) (len_s := 1) rfl hk ?_
      show wF _ 152 (12, [some (.ref _), some (.long _), none], [.int _], _) _
      refine wrI (pc := 12) (len_s := 1) rfl hk ?_
      show wF _ 181 (6, [some (.ref _), some (.int _), some (.int _)], [.int _], _) _
      refine w_t (pc := 6) (e_s := (15, 3, 18, 0, 0, .null, [])) (y_s := (18, [some (.ref _), some (.int _), some (.int _)], [], _)) rfl (u_ rfl) ?_
      refine w_t (pc := 18) (e_s := (0, 1, 0, 0, 0, .int (-1), [])) (y_s := (19, [some (.ref _), some (.int _), some (.int _)], [.int _], _)) rfl (u_ rfl) ?_
      exact wrI (pc := 19) (len_s := 1) rfl hk t_s
    · replace t_s := t_s.2 c2_s
      refine w_t (pc := 13) (e_s := (0, 1, 0, 0, 0, .int 1, [])) (y_s := (14, [some (.long _), none, some (.long _), none, some (.long _), none], [.int _], _)) rfl (u_ rfl) ?_
      refine w_t (pc := 14) (e_s := (17, 3, 18, 0, 0, .null, [])) (y_s := (18, [some (.long _), none, some (.long _), none, some (.long _), none], [.int _], _)) rfl (u_ rfl) ?_
      refine wrI (pc := 18) (len_s := 1) rfl hk ?_
      show wF _ 152 (12, [some (.ref _), some (.long _), none], [.int _], _) _
      refine wrI (pc := 12) (len_s := 1) rfl hk ?_
      show wF _ 181 (6, [some (.ref _), some (.int _), some (.int _)], [.int _], _) _
      refine w_t (pc := 6) (e_s := (15, 3, 18, 0, 0, .null, [])) (y_s := (9, [some (.ref _), some (.int _), some (.int _)], [], _)) rfl (u_ rfl) ?_
      refine w_t (pc := 9) (e_s := (3, 1, 0, 0, 0, .null, [])) (y_s := (10, [some (.ref _), some (.int _), some (.int _)], [.ref _], _)) rfl (u_ rfl) ?_
      refine w_t (pc := 10) (e_s := (1, 1, 2, 0, 0, .null, [])) (y_s := (11, [some (.ref _), some (.int _), some (.int _)], [.int _, .ref _], _)) rfl (u_ rfl) ?_
      refine w_t (pc := 11) (e_s := (10, 1, 0, 0, 0, .null, [])) (y_s := (12, [some (.ref _), some (.int _), some (.int _)], [.long (Int32.toInt64 _), .ref _], _)) rfl (u_ rfl) ?_
      refine wcI (pc := 12) (len_s := 3) rfl rfl (l := [some (.ref _), some (.long _), none]) rfl ?_
      refine w_t (pc := 0) (e_s := (2, 1, 1, 0, 0, .null, [])) (y_s := (1, [some (.ref _), some (.long _), none], [.long _], _)) rfl (u_ rfl) ?_
      refine w_t (pc := 1) (e_s := (0, 1, 0, 0, 0, .long 0, [])) (y_s := (2, [some (.ref _), some (.long _), none], [.long _, .long _], _)) rfl (u_ rfl) ?_
      refine w_t (pc := 2) (e_s := (3, 1, 0, 0, 0, .null, [])) (y_s := (3, [some (.ref _), some (.long _), none], [.ref _, .long _, .long _], _)) rfl (u_ rfl) ?_
      refine w20 (pc := 3) (len_s := 3) rfl ?_
      refine w_t (pc := 6) (e_s := (0, 1, 0, 0, 0, .int 1, [])) (y_s := (7, [some (.ref _), some (.long _), none], [.int _, .int _, .long _, .long _], _)) rfl (u_ rfl) ?_
      refine w_t (pc := 7) (e_s := (7, 1, 0, 1, 0, .null, [])) (y_s := (8, [some (.ref _), some (.long _), none], [.int (_ - _), .long _, .long _], _)) rfl (u_ rfl) ?_
      refine w_t (pc := 8) (e_s := (10, 1, 0, 0, 0, .null, [])) (y_s := (9, [some (.ref _), some (.long _), none], [.long (Int32.toInt64 _), .long _, .long _], _)) rfl (u_ rfl) ?_
      refine wcI (pc := 9) (len_s := 3) rfl rfl (l := [some (.long _), none, some (.long _), none, some (.long _), none]) rfl ?_
      refine w_t (pc := 0) (e_s := (2, 1, 0, 0, 0, .null, [])) (y_s := (1, [some (.long _), none, some (.long _), none, some (.long _), none], [.long _], _)) rfl (u_ rfl) ?_
      refine w_t (pc := 1) (e_s := (2, 1, 2, 0, 0, .null, [])) (y_s := (2, [some (.long _), none, some (.long _), none, some (.long _), none], [.long _, .long _], _)) rfl (u_ rfl) ?_
      refine w_t (pc := 2) (e_s := (14, 1, 0, 0, 0, .null, [])) (y_s := (3, [some (.long _), none, some (.long _), none, some (.long _), none], [.int (lg_cmp _ _)], _)) rfl (u_ rfl) ?_
      refine wl2 (pc := 3) (len_s := 3) (Y := 0) rfl (Int32.toInt_toInt64 _) (by decide) (fun c3_s => ?_) (fun c3_s => ?_)
      · replace t_s := t_s.1 c3_s
        refine w_t (pc := 17) (e_s := (0, 1, 0, 0, 0, .int 0, [])) (y_s := (18, [some (.long _), none, some (.long _), none, some (.long _), none], [.int _], _)) rfl (u_ rfl) ?_
        refine wrI (pc := 18) (len_s := 1) rfl hk ?_
        show wF _ 153 (12, [some (.ref _), some (.long _), none], [.int _], _) _
        refine wrI (pc := 12) (len_s := 1) rfl hk ?_
        show wF _ 181 (15, [some (.ref _), some (.int _), some (.int _)], [.int _], _) _
        refine w_t (pc := 15) (e_s := (15, 3, 20, 1, 0, .null, [])) (y_s := (18, [some (.ref _), some (.int _), some (.int _)], [], _)) rfl (u_ rfl) ?_
        refine w_t (pc := 18) (e_s := (0, 1, 0, 0, 0, .int (-1), [])) (y_s := (19, [some (.ref _), some (.int _), some (.int _)], [.int _], _)) rfl (u_ rfl) ?_
        exact wrI (pc := 19) (len_s := 1) rfl hk t_s
      · replace t_s := t_s.2 c3_s
        refine w_t (pc := 6) (e_s := (2, 1, 0, 0, 0, .null, [])) (y_s := (7, [some (.long _), none, some (.long _), none, some (.long _), none], [.long _], _)) rfl (u_ rfl) ?_
        refine w_t (pc := 7) (e_s := (2, 2, 4, 0, 0, .null, [])) (y_s := (9, [some (.long _), none, some (.long _), none, some (.long _), none], [.long _, .long _], _)) rfl (u_ rfl) ?_
        refine w_t (pc := 9) (e_s := (14, 1, 0, 0, 0, .null, [])) (y_s := (10, [some (.long _), none, some (.long _), none, some (.long _), none], [.int (lg_cmp _ _)], _)) rfl (u_ rfl) ?_
        refine wl4 (pc := 10) (len_s := 3) rfl (Int32.toInt_toInt64 _) (Int32.toInt_toInt64 _) (fun c4_s => ?_) (fun c4_s => ?_)
        · replace t_s := t_s.1 c4_s
          refine w_t (pc := 17) (e_s := (0, 1, 0, 0, 0, .int 0, [])) (y_s := (18, [some (.long _), none, some (.long _), none, some (.long _), none], [.int _], _)) rfl (u_ rfl) ?_
          refine wrI (pc := 18) (len_s := 1) rfl hk ?_
          show wF _ 153 (12, [some (.ref _), some (.long _), none], [.int _], _) _
          refine wrI (pc := 12) (len_s := 1) rfl hk ?_
          show wF _ 181 (15, [some (.ref _), some (.int _), some (.int _)], [.int _], _) _
          refine w_t (pc := 15) (e_s := (15, 3, 20, 1, 0, .null, [])) (y_s := (18, [some (.ref _), some (.int _), some (.int _)], [], _)) rfl (u_ rfl) ?_
          refine w_t (pc := 18) (e_s := (0, 1, 0, 0, 0, .int (-1), [])) (y_s := (19, [some (.ref _), some (.int _), some (.int _)], [.int _], _)) rfl (u_ rfl) ?_
          exact wrI (pc := 19) (len_s := 1) rfl hk t_s
        · replace t_s := t_s.2 c4_s
          refine w_t (pc := 13) (e_s := (0, 1, 0, 0, 0, .int 1, [])) (y_s := (14, [some (.long _), none, some (.long _), none, some (.long _), none], [.int _], _)) rfl (u_ rfl) ?_
          refine w_t (pc := 14) (e_s := (17, 3, 18, 0, 0, .null, [])) (y_s := (18, [some (.long _), none, some (.long _), none, some (.long _), none], [.int _], _)) rfl (u_ rfl) ?_
          refine wrI (pc := 18) (len_s := 1) rfl hk ?_
          show wF _ 153 (12, [some (.ref _), some (.long _), none], [.int _], _) _
          refine wrI (pc := 12) (len_s := 1) rfl hk ?_
          show wF _ 181 (15, [some (.ref _), some (.int _), some (.int _)], [.int _], _) _
          refine w_t (pc := 15) (e_s := (15, 3, 20, 1, 0, .null, [])) (y_s := (20, [some (.ref _), some (.int _), some (.int _)], [], _)) rfl (u_ rfl) ?_
          refine w_t (pc := 20) (e_s := (3, 1, 0, 0, 0, .null, [])) (y_s := (21, [some (.ref _), some (.int _), some (.int _)], [.ref _], _)) rfl (u_ rfl) ?_
          refine w_t (pc := 21) (e_s := (1, 1, 1, 0, 0, .null, [])) (y_s := (22, [some (.ref _), some (.int _), some (.int _)], [.int _, .ref _], _)) rfl (u_ rfl) ?_
          refine wcV (pc := 22) (len_s := 3) rfl rfl (l := [some (.ref _), some (.int _), none]) rfl (wmV t_s (fun h5 hk t_s => ?_))
          replace t_s := t_s hk
          refine w_t (pc := 25) (e_s := (3, 1, 0, 0, 0, .null, [])) (y_s := (26, [some (.ref _), some (.int _), some (.int _)], [.ref _], _)) rfl (u_ rfl) ?_
          refine w_t (pc := 26) (e_s := (1, 1, 2, 0, 0, .null, [])) (y_s := (27, [some (.ref _), some (.int _), some (.int _)], [.int _, .ref _], _)) rfl (u_ rfl) ?_
          refine wcI (pc := 27) (len_s := 3) rfl rfl (l := [some (.ref _), some (.int _), none, none]) rfl (wmI t_s (fun v6 h6 hk t_s => ?_))
          replace t_s := t_s hk
          exact wrI (pc := 30) (len_s := 1) rfl hk t_s
